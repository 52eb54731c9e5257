theorem d_sw26 {x : Int32} (c0 : ¬ x = 0) (c1 : ¬ x = 1) (c2 : ¬ x = 2) (c3 : ¬ x = 3) (c4 : ¬ x = 4) (c5 : ¬ x = 5) (c6 : ¬ x = 6) (c7 : ¬ x = 7) (c8 : ¬ x = 8) (c9 : ¬ x = 9) (c10 : ¬ x = 10) (c11 : ¬ x = 11) (c12 : ¬ x = 12) (c13 : ¬ x = 13) (c14 : ¬ x = 14) (c15 : ¬ x = 15) (c16 : ¬ x = 16) (c17 : ¬ x = 17) (c18 : ¬ x = 18) (c19 : ¬ x = 19) (c20 : ¬ x = 20) (c21 : ¬ x = 21) (c22 : ¬ x = 22) (c23 : ¬ x = 23) (c24 : ¬ x = 24) (c25 : ¬ x = 25) : x.toInt < 0 ∨ (25 : Int) < x.toInt := by
  rcases Int.lt_or_le x.toInt 0 with h | h
  · exact Or.inl h
  · rcases Int.lt_or_le 25 x.toInt with h2 | h2
    · exact Or.inr h2
    · exfalso
      have : x.toInt = 0 ∨ x.toInt = 1 ∨ x.toInt = 2 ∨ x.toInt = 3 ∨ x.toInt = 4 ∨ x.toInt = 5 ∨ x.toInt = 6 ∨ x.toInt = 7 ∨ x.toInt = 8 ∨ x.toInt = 9 ∨ x.toInt = 10 ∨ x.toInt = 11 ∨ x.toInt = 12 ∨ x.toInt = 13 ∨ x.toInt = 14 ∨ x.toInt = 15 ∨ x.toInt = 16 ∨ x.toInt = 17 ∨ x.toInt = 18 ∨ x.toInt = 19 ∨ x.toInt = 20 ∨ x.toInt = 21 ∨ x.toInt = 22 ∨ x.toInt = 23 ∨ x.toInt = 24 ∨ x.toInt = 25 := by omega
      rcases this with q | q | q | q | q | q | q | q | q | q | q | q | q | q | q | q | q | q | q | q | q | q | q | q | q | q
      · exact c0 (Int32.toInt_inj.mp q)
      · exact c1 (Int32.toInt_inj.mp q)
      · exact c2 (Int32.toInt_inj.mp q)
      · exact c3 (Int32.toInt_inj.mp q)
      · exact c4 (Int32.toInt_inj.mp q)
      · exact c5 (Int32.toInt_inj.mp q)
      · exact c6 (Int32.toInt_inj.mp q)
      · exact c7 (Int32.toInt_inj.mp q)
      · exact c8 (Int32.toInt_inj.mp q)
      · exact c9 (Int32.toInt_inj.mp q)
      · exact c10 (Int32.toInt_inj.mp q)
      · exact c11 (Int32.toInt_inj.mp q)
      · exact c12 (Int32.toInt_inj.mp q)
      · exact c13 (Int32.toInt_inj.mp q)
      · exact c14 (Int32.toInt_inj.mp q)
      · exact c15 (Int32.toInt_inj.mp q)
      · exact c16 (Int32.toInt_inj.mp q)
      · exact c17 (Int32.toInt_inj.mp q)
      · exact c18 (Int32.toInt_inj.mp q)
      · exact c19 (Int32.toInt_inj.mp q)
      · exact c20 (Int32.toInt_inj.mp q)
      · exact c21 (Int32.toInt_inj.mp q)
      · exact c22 (Int32.toInt_inj.mp q)
      · exact c23 (Int32.toInt_inj.mp q)
      · exact c24 (Int32.toInt_inj.mp q)
      · exact c25 (Int32.toInt_inj.mp q)
def fLaw_b (xs : Nat → Int32) (nL : Nat) (i : Int32) (m : dM) : Option ((Int32 × dM) ⊕ dM) := if nI nL - 6 < i then some (.inr m) else dg (dIx i nL) ((if ((xs (Int32.toNatClampNeg i)) &&& 31) = 0 then fLaw_0 xs nL i m else if ((xs (Int32.toNatClampNeg i)) &&& 31) = 1 then fLaw_1 xs nL i m else if ((xs (Int32.toNatClampNeg i)) &&& 31) = 2 then fLaw_2 xs nL i m else if ((xs (Int32.toNatClampNeg i)) &&& 31) = 3 then fLaw_3 xs nL i m else if ((xs (Int32.toNatClampNeg i)) &&& 31) = 4 then fLaw_4 xs nL i m else if ((xs (Int32.toNatClampNeg i)) &&& 31) = 5 then fLaw_5 xs nL i m else if ((xs (Int32.toNatClampNeg i)) &&& 31) = 6 then fLaw_6 xs nL i m else if ((xs (Int32.toNatClampNeg i)) &&& 31) = 7 then fLaw_7 xs nL i m else if ((xs (Int32.toNatClampNeg i)) &&& 31) = 8 then fLaw_8 xs nL i m else if ((xs (Int32.toNatClampNeg i)) &&& 31) = 9 then fLaw_9 xs nL i m else if ((xs (Int32.toNatClampNeg i)) &&& 31) = 10 then fLaw_10 xs nL i m else if ((xs (Int32.toNatClampNeg i)) &&& 31) = 11 then fLaw_11 xs nL i m else if ((xs (Int32.toNatClampNeg i)) &&& 31) = 12 then fLaw_12 xs nL i m else if ((xs (Int32.toNatClampNeg i)) &&& 31) = 13 then fLaw_13 xs nL i m else if ((xs (Int32.toNatClampNeg i)) &&& 31) = 14 then fLaw_14 xs nL i m else if ((xs (Int32.toNatClampNeg i)) &&& 31) = 15 then fLaw_15 xs nL i m else if ((xs (Int32.toNatClampNeg i)) &&& 31) = 16 then fLaw_16 xs nL i m else if ((xs (Int32.toNatClampNeg i)) &&& 31) = 17 then fLaw_17 xs nL i m else if ((xs (Int32.toNatClampNeg i)) &&& 31) = 18 then fLaw_18 xs nL i m else if ((xs (Int32.toNatClampNeg i)) &&& 31) = 19 then fLaw_19 xs nL i m else if ((xs (Int32.toNatClampNeg i)) &&& 31) = 20 then fLaw_20 xs nL i m else if ((xs (Int32.toNatClampNeg i)) &&& 31) = 21 then fLaw_21 xs nL i m else if ((xs (Int32.toNatClampNeg i)) &&& 31) = 22 then fLaw_22 xs nL i m else if ((xs (Int32.toNatClampNeg i)) &&& 31) = 23 then fLaw_23 xs nL i m else if ((xs (Int32.toNatClampNeg i)) &&& 31) = 24 then fLaw_24 xs nL i m else if ((xs (Int32.toNatClampNeg i)) &&& 31) = 25 then fLaw_25 xs nL i m else some m).bind (fun m9 => some (.inl (i + 6, m9))))
/-- the law, all its loop -/
def fLaw (xs : Nat → Int32) (nL : Nat) (m : dM) : Option dM := dlp (fun q => dP2 q (fun i m => fLaw_b xs nL i m)) dFl (0, m)
theorem nI_add6 {i : Int32} {nL : Nat} (h : dIx i nL = true) (hL : nL ≤ 3072) : 0 ≤ i + 6 ∧ (i + 6).toNatClampNeg = i.toNatClampNeg + 6 ∧ i.toNatClampNeg < 3072 := by
  have h1 := dIx_lt h
  have h0 : ¬ i < 0 := fun q => dIx_in h (Or.inl q)
  obtain ⟨j, hj, rfl⟩ := nI_of h0
  rw [nI_clamp hj] at h1 ⊢
  have e : nI j + 6 = nI (j + 6) := nI_add j 6
  rw [e]
  exact ⟨nI_pos' (by omega), nI_clamp (by omega), by omega⟩
set_option maxHeartbeats 4000000 in
set_option maxRecDepth 100000 in
theorem kLaw_loop {p : Program} {l : Launch} {e : Env} {s : State} {mth : MethodId} {below : List Frame} {meth : Method} {c : Code} {b nL : Nat} {xs : Nat → Int32} {g : dG} (hst : l.stackTraces = false) (S : CallFix p mth c cL_law 8 s #[Value.ref b] wsL_law RL) (hX : va_X b nL xs s s.heap) (hbl : b < s.heap.size) (hbA : ¬ dA g b) (hgA : ∀ q, dA g q → s.heap.size ≤ q) (hE : dEnv g s) (hL : nL ≤ 3072) (hr : meth.sig.returnType = ret) (hlk : meth.locks = false) :
    ∀ (n : Nat) (i : Int32) (m r : dM), dlp (fun q => dP2 q (fun i m => fLaw_b xs nL i m)) n (i, m) = some r → i.toNatClampNeg ≤ 3078 → ∀ (H : Heap) (locs : List Loc) (ls : Array Slot) (cells slots : Nat), cells ≤ 464 + i.toNatClampNeg → slots ≤ 5514 + 6 * i.toNatClampNeg → va_P g.1 vwCl (dws g m) H → va_S (dA g) s.heap H locs → lv_has ls 8 [(4, .int i), (0, .ref b), (1, .ref (dad g 0)), (2, .ref (dad g 444)), (3, .ref (dad g 463))] → W p l e room_1 s mth #[Value.ref b] below meth c H locs cells slots (lw_Z below #[Value.ref b] s) (F0 mth 23 ls []) := by
  intro n
  induction n with
  | zero => intro i m r h; simp [dlp] at h
  | succ n ih =>
    intro i m r h hi3 H locs ls cells slots hc hs hP hS hl
    obtain ⟨o, h1, h2⟩ := d_b h
    have h1 : fLaw_b xs nL i m = some o := h1
    have h : fLaw_b xs nL i m = some o := h1
    unfold fLaw_b at h
    refine lv_iload S.1 S.2.1 dL_law_23 (lv_at hl 0 rfl) ?_
    refine lv_aload_n S.1 S.2.1 dL_law_25 rfl (lv_at hl 1 rfl) ?_
    refine va_slen S.1 S.2.1 hX hbl hbA hS dL_law_26 ?_
    refine W.eq (g2 := F0 mth 27 ls [.int (nI nL), .int i]) rfl ?_
    refine lv_bipush (v := 6) S.1 S.2.1 dL_law_27 (by decide) ?_
    refine lv_isub S.1 S.2.1 dL_law_29 ?_
    refine lv_icmp_gt (tgt := 1879) S.1 S.2.1 dL_law_30 (by decide) (fun cq => ?_) (fun cq => ?_)
    · refine lv_iconst (v := 1) S.1 S.2.1 dL_law_1879 (by decide) ?_
      exact W.widen (k := 601024) (n := 7293034) (by omega) (by omega) (va_forget (fun q hq => hgA _ (hS.2.2 q hq)) (lw_ret S.1 S.2.1 hr hlk dL_law_1880))
    · have h := d_f cq h
      obtain ⟨hi, h⟩ := d_g h
      obtain ⟨m9, hm, h3⟩ := d_b h
      obtain rfl := Option.some.inj h3
      have h2 : dlp (fun q => dP2 q (fun i m => fLaw_b xs nL i m)) n (i + 6, m9) = some r := h2
      obtain ⟨a1, a2, a3⟩ := nI_add6 hi hL
      have hR : cells + 6 ≤ room_1.cells ∧ slots + 36 ≤ room_1.slots := ⟨(by omega : cells + 6 ≤ 601024), (by omega : slots + 36 ≤ 7293034)⟩
      have cont : ∀ (H : Heap) (locs : List Loc) (ls : Array Slot) (cells2 slots2 : Nat), cells2 ≤ cells + 6 → slots2 ≤ slots + 36 → va_P g.1 vwCl (dws g m9) H → va_S (dA g) s.heap H locs → lv_has ls 8 [(4, .int i), (0, .ref b), (1, .ref (dad g 0)), (2, .ref (dad g 444)), (3, .ref (dad g 463))] → W p l e room_1 s mth #[Value.ref b] below meth c H locs cells2 slots2 (lw_Z below #[Value.ref b] s) (F0 mth 1873 ls []) := by
        intro H locs ls cells2 slots2 hc2 hs2 hP hS hl
        refine lv_iinc (v := i + 6) (lv' := [(4, .int (i + 6)), (0, .ref b), (1, .ref (dad g 0)), (2, .ref (dad g 444)), (3, .ref (dad g 463))]) S.1 S.2.1 dL_law_1873 hl (k := 0) rfl rfl (by decide) rfl (fun ls hl => ?_)
        refine lv_goto (tgt := 23) S.1 S.2.1 dL_law_1876 (by decide) ?_
        exact ih (i + 6) m9 r h2 (by omega) H locs ls cells2 slots2 (by omega) (by omega) hP hS hl
      refine lv_aload_n S.1 S.2.1 dL_law_33 rfl (lv_at hl 1 rfl) ?_
      refine lv_iload S.1 S.2.1 dL_law_34 (lv_at hl 0 rfl) ?_
      refine va_sld S.1 S.2.1 hX hbl hbA hS (dIx_in hi) dL_law_36 ?_
      refine lv_bipush (v := 31) S.1 S.2.1 dL_law_37 (by decide) ?_
      refine lv_iand S.1 S.2.1 dL_law_39 ?_
      refine lv_topi (fun sw esw => ?_)
      rw [← esw] at hm
      by_cases c0 : sw = 0
      · rw [if_pos c0] at hm
        refine lv_tableIn (off := 120) (tgt := 160) S.1 S.2.1 dL_law_40 (by rw [c0]; decide) (by rw [c0]; decide) (by rw [c0]; rfl) (by decide) ?_
        exact kLaw_0 hst S hX hbl hbA hE hR hm hP hS hl cont
      rw [if_neg c0] at hm
      by_cases c1 : sw = 1
      · rw [if_pos c1] at hm
        refine lv_tableIn (off := 156) (tgt := 196) S.1 S.2.1 dL_law_40 (by rw [c1]; decide) (by rw [c1]; decide) (by rw [c1]; rfl) (by decide) ?_
        exact kLaw_1 hst S hX hbl hbA hE hR hm hP hS hl cont
      rw [if_neg c1] at hm
      by_cases c2 : sw = 2
      · rw [if_pos c2] at hm
        refine lv_tableIn (off := 224) (tgt := 264) S.1 S.2.1 dL_law_40 (by rw [c2]; decide) (by rw [c2]; decide) (by rw [c2]; rfl) (by decide) ?_
        exact kLaw_2 hst S hX hbl hbA hE hR hm hP hS hl cont
      rw [if_neg c2] at hm
      by_cases c3 : sw = 3
      · rw [if_pos c3] at hm
        refine lv_tableIn (off := 315) (tgt := 355) S.1 S.2.1 dL_law_40 (by rw [c3]; decide) (by rw [c3]; decide) (by rw [c3]; rfl) (by decide) ?_
        exact kLaw_3 hst S hX hbl hbA hE hR hm hP hS hl cont
      rw [if_neg c3] at hm
      by_cases c4 : sw = 4
      · rw [if_pos c4] at hm
        refine lv_tableIn (off := 391) (tgt := 431) S.1 S.2.1 dL_law_40 (by rw [c4]; decide) (by rw [c4]; decide) (by rw [c4]; rfl) (by decide) ?_
        exact kLaw_4 hst S hX hbl hbA hE hR hm hP hS hl cont
      rw [if_neg c4] at hm
      by_cases c5 : sw = 5
      · rw [if_pos c5] at hm
        refine lv_tableIn (off := 483) (tgt := 523) S.1 S.2.1 dL_law_40 (by rw [c5]; decide) (by rw [c5]; decide) (by rw [c5]; rfl) (by decide) ?_
        exact kLaw_5 hst S hX hbl hbA hE hR hm hP hS hl cont
      rw [if_neg c5] at hm
      by_cases c6 : sw = 6
      · rw [if_pos c6] at hm
        refine lv_tableIn (off := 575) (tgt := 615) S.1 S.2.1 dL_law_40 (by rw [c6]; decide) (by rw [c6]; decide) (by rw [c6]; rfl) (by decide) ?_
        exact kLaw_6 hst S hX hbl hbA hE hR hm hP hS hl cont
      rw [if_neg c6] at hm
      by_cases c7 : sw = 7
      · rw [if_pos c7] at hm
        refine lv_tableIn (off := 655) (tgt := 695) S.1 S.2.1 dL_law_40 (by rw [c7]; decide) (by rw [c7]; decide) (by rw [c7]; rfl) (by decide) ?_
        exact kLaw_7 hst S hX hbl hbA hE hR hm hP hS hl cont
      rw [if_neg c7] at hm
      by_cases c8 : sw = 8
      · rw [if_pos c8] at hm
        refine lv_tableIn (off := 763) (tgt := 803) S.1 S.2.1 dL_law_40 (by rw [c8]; decide) (by rw [c8]; decide) (by rw [c8]; rfl) (by decide) ?_
        exact kLaw_8 hst S hX hbl hbA hE hR hm hP hS hl cont
      rw [if_neg c8] at hm
      by_cases c9 : sw = 9
      · rw [if_pos c9] at hm
        refine lv_tableIn (off := 863) (tgt := 903) S.1 S.2.1 dL_law_40 (by rw [c9]; decide) (by rw [c9]; decide) (by rw [c9]; rfl) (by decide) ?_
        exact kLaw_9 hst S hX hbl hbA hE hR hm hP hS hl cont
      rw [if_neg c9] at hm
      by_cases c10 : sw = 10
      · rw [if_pos c10] at hm
        refine lv_tableIn (off := 907) (tgt := 947) S.1 S.2.1 dL_law_40 (by rw [c10]; decide) (by rw [c10]; decide) (by rw [c10]; rfl) (by decide) ?_
        exact kLaw_10 hst S hX hbl hbA hE hR hm hP hS hl cont
      rw [if_neg c10] at hm
      by_cases c11 : sw = 11
      · rw [if_pos c11] at hm
        refine lv_tableIn (off := 975) (tgt := 1015) S.1 S.2.1 dL_law_40 (by rw [c11]; decide) (by rw [c11]; decide) (by rw [c11]; rfl) (by decide) ?_
        exact kLaw_11 hst S hX hbl hbA hE hR hm hP hS hl cont
      rw [if_neg c11] at hm
      by_cases c12 : sw = 12
      · rw [if_pos c12] at hm
        refine lv_tableIn (off := 1030) (tgt := 1070) S.1 S.2.1 dL_law_40 (by rw [c12]; decide) (by rw [c12]; decide) (by rw [c12]; rfl) (by decide) ?_
        exact kLaw_12 hst S hX hbl hbA hE hR hm hP hS hl cont
      rw [if_neg c12] at hm
      by_cases c13 : sw = 13
      · rw [if_pos c13] at hm
        refine lv_tableIn (off := 1110) (tgt := 1150) S.1 S.2.1 dL_law_40 (by rw [c13]; decide) (by rw [c13]; decide) (by rw [c13]; rfl) (by decide) ?_
        exact kLaw_13 hst S hX hbl hbA hE hR hm hP hS hl cont
      rw [if_neg c13] at hm
      by_cases c14 : sw = 14
      · rw [if_pos c14] at hm
        refine lv_tableIn (off := 1178) (tgt := 1218) S.1 S.2.1 dL_law_40 (by rw [c14]; decide) (by rw [c14]; decide) (by rw [c14]; rfl) (by decide) ?_
        exact kLaw_14 hst S hX hbl hbA hE hR hm hP hS hl cont
      rw [if_neg c14] at hm
      by_cases c15 : sw = 15
      · rw [if_pos c15] at hm
        refine lv_tableIn (off := 1191) (tgt := 1231) S.1 S.2.1 dL_law_40 (by rw [c15]; decide) (by rw [c15]; decide) (by rw [c15]; rfl) (by decide) ?_
        exact kLaw_15 hst S hX hbl hbA hE hR hm hP hS hl cont
      rw [if_neg c15] at hm
      by_cases c16 : sw = 16
      · rw [if_pos c16] at hm
        refine lv_tableIn (off := 1283) (tgt := 1323) S.1 S.2.1 dL_law_40 (by rw [c16]; decide) (by rw [c16]; decide) (by rw [c16]; rfl) (by decide) ?_
        exact kLaw_16 hst S hX hbl hbA hE hR hm hP hS hl cont
      rw [if_neg c16] at hm
      by_cases c17 : sw = 17
      · rw [if_pos c17] at hm
        refine lv_tableIn (off := 1394) (tgt := 1434) S.1 S.2.1 dL_law_40 (by rw [c17]; decide) (by rw [c17]; decide) (by rw [c17]; rfl) (by decide) ?_
        exact kLaw_17 hst S hX hbl hbA hE hR hm hP hS hl cont
      rw [if_neg c17] at hm
      by_cases c18 : sw = 18
      · rw [if_pos c18] at hm
        refine lv_tableIn (off := 1474) (tgt := 1514) S.1 S.2.1 dL_law_40 (by rw [c18]; decide) (by rw [c18]; decide) (by rw [c18]; rfl) (by decide) ?_
        exact kLaw_18 hst S hX hbl hbA hE hR hm hP hS hl cont
      rw [if_neg c18] at hm
      by_cases c19 : sw = 19
      · rw [if_pos c19] at hm
        refine lv_tableIn (off := 1487) (tgt := 1527) S.1 S.2.1 dL_law_40 (by rw [c19]; decide) (by rw [c19]; decide) (by rw [c19]; rfl) (by decide) ?_
        exact kLaw_19 hst S hX hbl hbA hE hR hm hP hS hl cont
      rw [if_neg c19] at hm
      by_cases c20 : sw = 20
      · rw [if_pos c20] at hm
        refine lv_tableIn (off := 1500) (tgt := 1540) S.1 S.2.1 dL_law_40 (by rw [c20]; decide) (by rw [c20]; decide) (by rw [c20]; rfl) (by decide) ?_
        exact kLaw_20 hst S hX hbl hbA hE hR hm hP hS hl cont
      rw [if_neg c20] at hm
      by_cases c21 : sw = 21
      · rw [if_pos c21] at hm
        refine lv_tableIn (off := 1513) (tgt := 1553) S.1 S.2.1 dL_law_40 (by rw [c21]; decide) (by rw [c21]; decide) (by rw [c21]; rfl) (by decide) ?_
        exact kLaw_21 hst S hX hbl hbA hE hR hm hP hS hl cont
      rw [if_neg c21] at hm
      by_cases c22 : sw = 22
      · rw [if_pos c22] at hm
        refine lv_tableIn (off := 1561) (tgt := 1601) S.1 S.2.1 dL_law_40 (by rw [c22]; decide) (by rw [c22]; decide) (by rw [c22]; rfl) (by decide) ?_
        exact kLaw_22 hst S hX hbl hbA hE hR hm hP hS hl cont
      rw [if_neg c22] at hm
      by_cases c23 : sw = 23
      · rw [if_pos c23] at hm
        refine lv_tableIn (off := 1641) (tgt := 1681) S.1 S.2.1 dL_law_40 (by rw [c23]; decide) (by rw [c23]; decide) (by rw [c23]; rfl) (by decide) ?_
        exact kLaw_23 hst S hX hbl hbA hE hR hm hP hS hl cont
      rw [if_neg c23] at hm
      by_cases c24 : sw = 24
      · rw [if_pos c24] at hm
        refine lv_tableIn (off := 1709) (tgt := 1749) S.1 S.2.1 dL_law_40 (by rw [c24]; decide) (by rw [c24]; decide) (by rw [c24]; rfl) (by decide) ?_
        exact kLaw_24 hst S hX hbl hbA hE hR hm hP hS hl cont
      rw [if_neg c24] at hm
      by_cases c25 : sw = 25
      · rw [if_pos c25] at hm
        refine lv_tableIn (off := 1765) (tgt := 1805) S.1 S.2.1 dL_law_40 (by rw [c25]; decide) (by rw [c25]; decide) (by rw [c25]; rfl) (by decide) ?_
        exact kLaw_25 hst S hX hbl hbA hE hR hm hP hS hl cont
      rw [if_neg c25] at hm
      obtain rfl := Option.some.inj hm
      refine lv_tableOut (tgt := 1873) S.1 S.2.1 dL_law_40 (d_sw26 c0 c1 c2 c3 c4 c5 c6 c7 c8 c9 c10 c11 c12 c13 c14 c15 c16 c17 c18 c19 c20 c21 c22 c23 c24 c25) (by decide) ?_
      exact cont H locs ls cells slots (by omega) (by omega) hP hS hl
theorem exactly_str {args : Array Value} {s : State} {k : Nat} {tx : String} (h1 : (Cond.stringRef "DrillField" k tx).before args s = true) (h2 : (Cond.exactly (.string "DrillField" k) "java/lang/String").before args s = true) : ∃ sa, vk_R "DrillField" k tx sa s := by
  obtain ⟨a, c, cell, kk, q1, -⟩ := Cond.exactly_spec h2
  exact ⟨a, vk_R.of h1 q1⟩
theorem arr_ty {args : Array Value} {s : State} {ty : FieldType} (hty : ∀ C, ty ≠ .object C) (h : (Cond.arrayClass ty).before args s = true) : ∃ cA, ArrOfT s cA ty ∧ va_RA s cA ty := by
  obtain ⟨cA, kA, comp, h1, h2, h3⟩ := Cond.arrayClass_spec h
  refine ⟨cA, fun n z => ⟨fun k h => absurd h (by simp [arrV, vp_cell]), kA, h2, comp, h3⟩, ?_⟩
  cases ty with
  | object C => exact absurd rfl (hty C)
  | _ => exact h1
theorem arr_obj {args : Array Value} {s : State} {C : String} (h : (Cond.arrayOver (.object C)).before args s = true) : ∃ cA, ArrOfT s cA (.object C) ∧ va_RA s cA (.object C) := by
  obtain ⟨comp, cA, kA, h1, -, h2, h3, h4⟩ := Cond.arrayOver_spec h
  exact ⟨cA, fun n z => ⟨fun k h => absurd h (by simp [arrV, vp_cell]), kA, h2, comp, h3⟩, kA, comp, h2, h3, h1, h4⟩
theorem arr_arr {args : Array Value} {s : State} {t : FieldType} (h : (Cond.arrayOver (.array t)).before args s = true) : ∃ cA, ArrOfT s cA (.array t) ∧ va_RA s cA (.array t) := by
  obtain ⟨comp, cA, kA, h1, h2, h3, h4⟩ := Cond.arrayOver_specA h
  exact ⟨cA, fun n z => ⟨fun k h => absurd h (by simp [arrV, vp_cell]), kA, h2, comp, h3⟩, h4⟩
set_option maxHeartbeats 4000000 in
set_option maxRecDepth 100000 in
theorem dEn0_start {s : State} {b : Nat} (hts : ∀ w ∈ lw_tbl, w.before #[Value.ref b] s = true) (hgv : (Jvm.Cond.and given_1 narrow_1).before #[Value.ref b] s = true) : ∃ g : dG, g.2.2.2 = s.heap.size ∧ dEn0 g s := by
  obtain ⟨c0, i0, k0⟩ := u_known (C := RX0) (T := TX0) (N := 4) (n := 4) hts inX0 (hts (.instantiable RX0 4) (List.mem_of_getElem? (i := 315) (by decide +kernel)))
  obtain ⟨c1, i1, k1⟩ := u_known (C := RX1) (T := TX1) (N := 5) (n := 5) hts inX1 (hts (.instantiable RX1 5) (List.mem_of_getElem? (i := 85) (by decide +kernel)))
  obtain ⟨c2, i2, k2⟩ := u_known (C := RX2) (T := TX2) (N := 4) (n := 4) hts inX2 (hts (.instantiable RX2 4) (List.mem_of_getElem? (i := 238) (by decide +kernel)))
  obtain ⟨c3, i3, k3⟩ := u_known (C := RX3) (T := TX3) (N := 3) (n := 3) hts inX3 (hts (.instantiable RX3 3) (List.mem_of_getElem? (i := 297) (by decide +kernel)))
  obtain ⟨c4, i4, k4⟩ := u_known (C := RX4) (T := TX4) (N := 8) (n := 8) hts inX4 (hts (.instantiable RX4 8) (List.mem_of_getElem? (i := 183) (by decide +kernel)))
  obtain ⟨c5, i5, k5⟩ := u_known (C := RX5) (T := TX5) (N := 7) (n := 7) hts inX5 (hts (.instantiable RX5 7) (List.mem_of_getElem? (i := 153) (by decide +kernel)))
  obtain ⟨c6, i6, k6⟩ := u_known (C := RX6) (T := TX6) (N := 4) (n := 4) hts inX6 (hts (.instantiable RX6 4) (List.mem_of_getElem? (i := 270) (by decide +kernel)))
  obtain ⟨c7, i7, k7⟩ := u_known (C := RX7) (T := TX7) (N := 3) (n := 3) hts inX7 (hts (.instantiable RX7 3) (List.mem_of_getElem? (i := 116) (by decide +kernel)))
  obtain ⟨c8, i8, k8⟩ := u_known (C := RX8) (T := TX8) (N := 4) (n := 4) hts inX8 (hts (.instantiable RX8 4) (List.mem_of_getElem? (i := 146) (by decide +kernel)))
  obtain ⟨c9, i9, k9⟩ := u_known (C := RX9) (T := TX9) (N := 2) (n := 2) hts inX9 (hts (.instantiable RX9 2) (List.mem_of_getElem? (i := 123) (by decide +kernel)))
  obtain ⟨c10, i10, k10⟩ := u_known (C := RX10) (T := TX10) (N := 4) (n := 4) hts inX10 (hts (.instantiable RX10 4) (List.mem_of_getElem? (i := 230) (by decide +kernel)))
  obtain ⟨c11, i11, k11⟩ := u_known (C := RX11) (T := TX11) (N := 8) (n := 8) hts inX11 (hts (.instantiable RX11 8) (List.mem_of_getElem? (i := 77) (by decide +kernel)))
  obtain ⟨c12, i12, k12⟩ := u_known (C := RX12) (T := TX12) (N := 28) (n := 28) hts inX12 (hts (.instantiable RX12 28) (List.mem_of_getElem? (i := 1086) (by decide +kernel)))
  obtain ⟨aI, bI1, bI2⟩ := arr_ty (ty := .int) (fun C h => by cases h) (hts (.arrayClass .int) (List.mem_of_getElem? (i := 113) (by decide +kernel)))
  obtain ⟨aZ, bZ1, bZ2⟩ := arr_ty (ty := .boolean) (fun C h => by cases h) (hts (.arrayClass .boolean) (List.mem_of_getElem? (i := 114) (by decide +kernel)))
  obtain ⟨aJ, bJ1, bJ2⟩ := arr_ty (ty := .long) (fun C h => by cases h) (hts (.arrayClass .long) (List.mem_of_getElem? (i := 215) (by decide +kernel)))
  obtain ⟨aP, bP1, bP2⟩ := arr_obj (C := "DrillField$Part") (hts (.arrayOver (.object "DrillField$Part")) (List.mem_of_getElem? (i := 152) (by decide +kernel)))
  obtain ⟨aS, bS1, bS2⟩ := arr_obj (C := "DrillField$Spots") (hts (.arrayOver (.object "DrillField$Spots")) (List.mem_of_getElem? (i := 122) (by decide +kernel)))
  obtain ⟨aA, bA1, bA2⟩ := arr_arr (t := .int) (hts (.arrayOver (.array .int)) (List.mem_of_getElem? (i := 278) (by decide +kernel)))
  obtain ⟨aL, bL1, bL2⟩ := arr_arr (t := .long) (hts (.arrayOver (.array .long)) (List.mem_of_getElem? (i := 189) (by decide +kernel)))
  have hn := flat_of_before _ hgv
  refine ⟨(((fun k => if k = 0 then c0 else if k = 1 then c1 else if k = 2 then c2 else if k = 3 then c3 else if k = 4 then c4 else if k = 5 then c5 else if k = 6 then c6 else if k = 7 then c7 else if k = 8 then c8 else if k = 9 then c9 else if k = 10 then c10 else if k = 11 then c11 else c12), (fun k => if k = 0 then i0 else if k = 1 then i1 else if k = 2 then i2 else if k = 3 then i3 else if k = 4 then i4 else if k = 5 then i5 else if k = 6 then i6 else if k = 7 then i7 else if k = 8 then i8 else if k = 9 then i9 else if k = 10 then i10 else if k = 11 then i11 else i12)), (fun k => if k = 0 then aI else if k = 1 then aZ else if k = 2 then aJ else if k = 3 then aP else if k = 4 then aS else if k = 5 then aA else aL), (fun _ => 0), s.heap.size), rfl, ⟨?_, ?_⟩, ?_, ?_, ?_, ?_, Nat.le_refl _, ?_, ?_, ?_, ?_, ?_, ?_, ?_⟩
  · intro k q hq
    match k, hq with
    | 0, hq => cases hq; exact k0
    | 1, hq => cases hq; exact k1
    | 2, hq => cases hq; exact k2
    | 3, hq => cases hq; exact k3
    | 4, hq => cases hq; exact k4
    | 5, hq => cases hq; exact k5
    | 6, hq => cases hq; exact k6
    | 7, hq => cases hq; exact k7
    | 8, hq => cases hq; exact k8
    | 9, hq => cases hq; exact k9
    | 10, hq => cases hq; exact k10
    | 11, hq => cases hq; exact k11
    | 12, hq => cases hq; exact k12
    | k + 13, hq => simp [vwCl] at hq
  · intro k q hq
    match k, hq with
    | 0, hq => cases hq; exact ⟨bI1, bI2⟩
    | 1, hq => cases hq; exact ⟨bZ1, bZ2⟩
    | 2, hq => cases hq; exact ⟨bJ1, bJ2⟩
    | 3, hq => cases hq; exact ⟨bP1, bP2⟩
    | 4, hq => cases hq; exact ⟨bS1, bS2⟩
    | 5, hq => cases hq; exact ⟨bA1, bA2⟩
    | 6, hq => cases hq; exact ⟨bL1, bL2⟩
    | k + 7, hq => simp [dTys] at hq
  · exact List.forall_mem_append.mpr ⟨List.forall_mem_cons.mpr ⟨va_Nw.of rfl (hts (.methodLinkNest "DrillField$Contest" 27 ⟨"DrillField", "isWithin", "(III)Z"⟩ "DrillField") (List.mem_of_getElem? (i := 1033) (by decide +kernel))), List.forall_mem_cons.mpr ⟨va_Nw.of rfl (hts (.methodLinkNest "DrillField$Contest" 35 ⟨"DrillField", "downBy", "(II)I"⟩ "DrillField") (List.mem_of_getElem? (i := 1043) (by decide +kernel))), List.forall_mem_cons.mpr ⟨va_Nw.of rfl (hts (.methodLinkNest "DrillField$Dots" 39 ⟨"DrillField", "isInRow", "(I)Z"⟩ "DrillField") (List.mem_of_getElem? (i := 436) (by decide +kernel))), List.forall_mem_cons.mpr ⟨va_Nw.of rfl (hts (.methodLinkNest "DrillField$Dots" 43 ⟨"DrillField", "isWithin", "(III)Z"⟩ "DrillField") (List.mem_of_getElem? (i := 749) (by decide +kernel))), List.forall_mem_cons.mpr ⟨va_Nw.of rfl (hts (.methodLinkNest "DrillField$Dots" 51 ⟨"DrillField", "downBy", "(II)I"⟩ "DrillField") (List.mem_of_getElem? (i := 449) (by decide +kernel))), List.forall_mem_cons.mpr ⟨va_Nw.of rfl (hts (.methodLinkNest "DrillField$Pages" 63 ⟨"DrillField", "isWithin", "(III)Z"⟩ "DrillField") (List.mem_of_getElem? (i := 559) (by decide +kernel))), List.forall_mem_cons.mpr ⟨va_Nw.of rfl (hts (.methodLinkNest "DrillField$Pairing" 85 ⟨"DrillField", "isInRow", "(I)Z"⟩ "DrillField") (List.mem_of_getElem? (i := 872) (by decide +kernel))), List.forall_mem_cons.mpr ⟨va_Nw.of rfl (hts (.methodLinkNest "DrillField$Part" 39 ⟨"DrillField", "isInRow", "(I)Z"⟩ "DrillField") (List.mem_of_getElem? (i := 893) (by decide +kernel))), List.forall_mem_cons.mpr ⟨va_Nw.of rfl (hts (.methodLinkNest "DrillField$Part" 54 ⟨"DrillField", "downBy", "(II)I"⟩ "DrillField") (List.mem_of_getElem? (i := 414) (by decide +kernel))), List.forall_mem_cons.mpr ⟨va_Nw.of rfl (hts (.methodLinkNest "DrillField$Sets" 26 ⟨"DrillField", "isWithin", "(III)Z"⟩ "DrillField") (List.mem_of_getElem? (i := 787) (by decide +kernel))), List.forall_mem_cons.mpr ⟨va_Nw.of rfl (hts (.methodLinkNest "DrillField$Sets" 30 ⟨"DrillField", "downBy", "(II)I"⟩ "DrillField") (List.mem_of_getElem? (i := 765) (by decide +kernel))), List.forall_mem_cons.mpr ⟨va_Nw.of rfl (hts (.methodLinkNest "DrillField$Sets" 38 ⟨"DrillField", "restBy", "(II)I"⟩ "DrillField") (List.mem_of_getElem? (i := 800) (by decide +kernel))), List.forall_mem_cons.mpr ⟨va_Nw.of rfl (hts (.methodLinkNest "DrillField$Sets" 48 ⟨"DrillField", "isOnField", "(II)Z"⟩ "DrillField") (List.mem_of_getElem? (i := 777) (by decide +kernel))), List.forall_mem_cons.mpr ⟨va_Nw.of rfl (hts (.methodLinkNest "DrillField$Show" 33 ⟨"DrillField", "isWithin", "(III)Z"⟩ "DrillField") (List.mem_of_getElem? (i := 371) (by decide +kernel))), List.forall_mem_cons.mpr ⟨va_Nw.of rfl (hts (.methodLinkNest "DrillField$Spots" 18 ⟨"DrillField", "isInRow", "(I)Z"⟩ "DrillField") (List.mem_of_getElem? (i := 411) (by decide +kernel))), List.forall_mem_cons.mpr ⟨va_Nw.of rfl (hts (.methodLinkNest "DrillField$Spots" 33 ⟨"DrillField", "square", "(II)I"⟩ "DrillField") (List.mem_of_getElem? (i := 458) (by decide +kernel))), List.forall_mem_cons.mpr ⟨va_Nw.of rfl (hts (.methodLinkNest "DrillField$Watch" 74 ⟨"DrillField", "isWithin", "(III)Z"⟩ "DrillField") (List.mem_of_getElem? (i := 398) (by decide +kernel))), (fun _ h => absurd h List.not_mem_nil)⟩⟩⟩⟩⟩⟩⟩⟩⟩⟩⟩⟩⟩⟩⟩⟩⟩, List.forall_mem_cons.mpr ⟨va_Nw.of rfl (hts (.methodLinkNest "DrillField" 39 ⟨"DrillField$Recount", "<init>", "()V"⟩ "DrillField") (List.mem_of_getElem? (i := 271) (by decide +kernel))), List.forall_mem_cons.mpr ⟨va_Nw.of rfl (hts (.methodLinkNest "DrillField" 46 ⟨"DrillField$Spots", "<init>", "()V"⟩ "DrillField") (List.mem_of_getElem? (i := 295) (by decide +kernel))), List.forall_mem_cons.mpr ⟨va_Nw.of rfl (hts (.methodLinkNest "DrillField" 60 ⟨"DrillField$Contest", "<init>", "()V"⟩ "DrillField") (List.mem_of_getElem? (i := 316) (by decide +kernel))), List.forall_mem_cons.mpr ⟨va_Nw.of rfl (hts (.methodLinkNest "DrillField$Pages" 17 ⟨"DrillField$Spots", "<init>", "()V"⟩ "DrillField") (List.mem_of_getElem? (i := 303) (by decide +kernel))), List.forall_mem_cons.mpr ⟨va_Nw.of rfl (hts (.methodLinkNest "DrillField$Part" 11 ⟨"DrillField$Spots", "<init>", "()V"⟩ "DrillField") (List.mem_of_getElem? (i := 159) (by decide +kernel))), List.forall_mem_cons.mpr ⟨va_Nw.of rfl (hts (.methodLinkNest "DrillField$Recount" 11 ⟨"DrillField$Spots", "<init>", "()V"⟩ "DrillField") (List.mem_of_getElem? (i := 276) (by decide +kernel))), List.forall_mem_cons.mpr ⟨va_Nw.of rfl (hts (.methodLinkNest "DrillField$Recount" 28 ⟨"DrillField$Fault", "<init>", "()V"⟩ "DrillField") (List.mem_of_getElem? (i := 280) (by decide +kernel))), List.forall_mem_cons.mpr ⟨va_Nw.of rfl (hts (.methodLinkNest "DrillField$Sets" 17 ⟨"DrillField$Spots", "<init>", "()V"⟩ "DrillField") (List.mem_of_getElem? (i := 124) (by decide +kernel))), List.forall_mem_cons.mpr ⟨va_Nw.of rfl (hts (.methodLinkNest "DrillField$Show" 17 ⟨"DrillField$Part", "<init>", "()V"⟩ "DrillField") (List.mem_of_getElem? (i := 154) (by decide +kernel))), List.forall_mem_cons.mpr ⟨va_Nw.of rfl (hts (.methodLinkNest "DrillField$Show" 24 ⟨"DrillField$Pairing", "<init>", "()V"⟩ "DrillField") (List.mem_of_getElem? (i := 184) (by decide +kernel))), List.forall_mem_cons.mpr ⟨va_Nw.of rfl (hts (.methodLinkNest "DrillField$Watch" 17 ⟨"DrillField$Spots", "<init>", "()V"⟩ "DrillField") (List.mem_of_getElem? (i := 236) (by decide +kernel))), List.forall_mem_cons.mpr ⟨va_Nw.of rfl (hts (.methodLinkNest "DrillField$Watch" 24 ⟨"DrillField$Fault", "<init>", "()V"⟩ "DrillField") (List.mem_of_getElem? (i := 239) (by decide +kernel))), (fun _ h => absurd h List.not_mem_nil)⟩⟩⟩⟩⟩⟩⟩⟩⟩⟩⟩⟩⟩
  · exact vx_Zqof (hts (.laysStatic Bundle.tN "UNASSIGNED_STACK" Bundle.steD) (List.mem_of_getElem? (i := 628) (by decide +kernel))) (hts (.initialized Bundle.tN) (List.mem_of_getElem? (i := 70) (by decide +kernel))) (hn _ (by decide +kernel)) (fun a h => Nat.not_le.mpr h)
  · exact vx_Zqof (hts (.laysStatic Bundle.tN "SUPPRESSED_SENTINEL" Bundle.listD) (List.mem_of_getElem? (i := 630) (by decide +kernel))) (hts (.initialized Bundle.tN) (List.mem_of_getElem? (i := 70) (by decide +kernel))) (hn _ (by decide +kernel)) (fun a h => Nat.not_le.mpr h)
  · exact List.forall_mem_cons.mpr ⟨exactly_str (hts (.stringRef "DrillField" 75 "there are sets") (List.mem_of_getElem? (i := 682) (by decide +kernel))) (hn _ (by decide +kernel)), List.forall_mem_cons.mpr ⟨exactly_str (hts (.stringRef "DrillField" 116 "a place is not on the field") (List.mem_of_getElem? (i := 760) (by decide +kernel))) (hn _ (by decide +kernel)), List.forall_mem_cons.mpr ⟨exactly_str (hts (.stringRef "DrillField" 135 "there are 12 parts") (List.mem_of_getElem? (i := 824) (by decide +kernel))) (hn _ (by decide +kernel)), List.forall_mem_cons.mpr ⟨exactly_str (hts (.stringRef "DrillField" 157 "there is no part") (List.mem_of_getElem? (i := 916) (by decide +kernel))) (hn _ (by decide +kernel)), List.forall_mem_cons.mpr ⟨exactly_str (hts (.stringRef "DrillField" 207 "the dot does not march") (List.mem_of_getElem? (i := 993) (by decide +kernel))) (hn _ (by decide +kernel)), List.forall_mem_cons.mpr ⟨exactly_str (hts (.stringRef "DrillField" 267 "an argument is out of its range") (List.mem_of_getElem? (i := 642) (by decide +kernel))) (hn _ (by decide +kernel)), List.forall_mem_cons.mpr ⟨exactly_str (hts (.stringRef "DrillField" 271 "there is no such number") (List.mem_of_getElem? (i := 714) (by decide +kernel))) (hn _ (by decide +kernel)), List.forall_mem_cons.mpr ⟨exactly_str (hts (.stringRef "DrillField" 277 "there are 12 sets") (List.mem_of_getElem? (i := 778) (by decide +kernel))) (hn _ (by decide +kernel)), (fun _ h => absurd h List.not_mem_nil)⟩⟩⟩⟩⟩⟩⟩⟩
  · exact List.forall_mem_cons.mpr ⟨va_Nw.of rfl (hts (.declares (Bundle.initS "java/lang/RuntimeException")) (List.mem_of_getElem? (i := 605) (by decide +kernel))), List.forall_mem_cons.mpr ⟨va_Nw.of rfl (hts (.declares (Bundle.initS "java/lang/Exception")) (List.mem_of_getElem? (i := 607) (by decide +kernel))), List.forall_mem_cons.mpr ⟨va_Nw.of rfl (hts (.declares (Bundle.initS Bundle.tN)) (List.mem_of_getElem? (i := 609) (by decide +kernel))), (fun _ h => absurd h List.not_mem_nil)⟩⟩⟩
  · exact List.forall_mem_cons.mpr ⟨va_Nw.of rfl (hts (.castable "java/lang/IllegalArgumentException" "java/lang/IllegalArgumentException") (List.mem_of_getElem? (i := 603) (by decide +kernel))), List.forall_mem_cons.mpr ⟨va_Nw.of rfl (hts (.castable "java/lang/IllegalStateException" "java/lang/IllegalStateException") (List.mem_of_getElem? (i := 675) (by decide +kernel))), List.forall_mem_cons.mpr ⟨va_Nw.of rfl (hts (.castable "java/lang/IndexOutOfBoundsException" "java/lang/IndexOutOfBoundsException") (List.mem_of_getElem? (i := 707) (by decide +kernel))), (fun _ h => absurd h List.not_mem_nil)⟩⟩⟩
  · exact List.forall_mem_cons.mpr ⟨List.forall_mem_cons.mpr ⟨fun n => absurd rfl n, List.forall_mem_cons.mpr ⟨fun _ => va_Nc.of (hn (.not (.castable "java/lang/IllegalArgumentException" "java/lang/IllegalStateException")) (by decide +kernel)), List.forall_mem_cons.mpr ⟨fun _ => va_Nc.of (hn (.not (.castable "java/lang/IllegalArgumentException" "java/lang/IndexOutOfBoundsException")) (by decide +kernel)), (fun _ h => absurd h List.not_mem_nil)⟩⟩⟩, List.forall_mem_cons.mpr ⟨List.forall_mem_cons.mpr ⟨fun _ => va_Nc.of (hn (.not (.castable "java/lang/IllegalStateException" "java/lang/IllegalArgumentException")) (by decide +kernel)), List.forall_mem_cons.mpr ⟨fun n => absurd rfl n, List.forall_mem_cons.mpr ⟨fun _ => va_Nc.of (hn (.not (.castable "java/lang/IllegalStateException" "java/lang/IndexOutOfBoundsException")) (by decide +kernel)), (fun _ h => absurd h List.not_mem_nil)⟩⟩⟩, List.forall_mem_cons.mpr ⟨List.forall_mem_cons.mpr ⟨fun _ => va_Nc.of (hn (.not (.castable "java/lang/IndexOutOfBoundsException" "java/lang/IllegalArgumentException")) (by decide +kernel)), List.forall_mem_cons.mpr ⟨fun _ => va_Nc.of (hn (.not (.castable "java/lang/IndexOutOfBoundsException" "java/lang/IllegalStateException")) (by decide +kernel)), List.forall_mem_cons.mpr ⟨fun n => absurd rfl n, (fun _ h => absurd h List.not_mem_nil)⟩⟩⟩, (fun _ h => absurd h List.not_mem_nil)⟩⟩⟩
  · exact va_AO.of (hts (.arrayOver (.object "DrillField$Part")) (List.mem_of_getElem? (i := 152) (by decide +kernel)))
  · exact va_AO.of (hts (.arrayOver (.object "DrillField$Spots")) (List.mem_of_getElem? (i := 122) (by decide +kernel)))
  · exact hts (.arrayOver (.array .int)) (List.mem_of_getElem? (i := 278) (by decide +kernel))
  · exact hts (.arrayOver (.array .long)) (List.mem_of_getElem? (i := 189) (by decide +kernel))
set_option maxHeartbeats 4000000 in
set_option maxRecDepth 100000 in
/-- the claim's start, out of the pure statement: the law's function ends on every script -/
theorem start_of {p : Program} {e : Env} {s : State} {m : MethodId} {below : List Frame} {meth : Method} {c : Code} (l : Launch) (hflags : l.flags = flags0) {b L : Nat} {xs : Nat → Int32} (hL : L ≤ 3072) (hpure : ∃ r, fLaw xs L dI = some r) (C0 : lw_At p s m meth c b L xs) : W p l e room_1 s m #[Value.ref b] below meth c s.heap [] 0 0 (lw_Z below #[Value.ref b] s) (entryFrame m ([Value.ref b] : List Value).toArray 8) := by
  obtain ⟨hx, hb, hr, hml, hown, hts, hX, hbl, hlk, hgv⟩ := id C0
  have hst : l.stackTraces = false := by unfold Launch.stackTraces; rw [hflags]; decide +kernel
  have S : CallFix p m c cL_law 8 s #[Value.ref b] wsL_law RL := ⟨hx, hb, hml, hown, fun w h => hts w (wsL_law_in w h)⟩
  obtain ⟨g, hg, hE0⟩ := dEn0_start hts hgv
  have hA : ∀ q : Nat, s.heap.size ≤ q → dA g q := fun q h => by show g.2.2.2 ≤ q; rw [hg]; exact h
  have hAb : ∀ q, dA g q → g.2.2.2 ≤ q := fun _ h => h
  have hbA : ¬ dA g b := fun h => by have h : g.2.2.2 ≤ b := h; rw [hg] at h; omega
  have hP : va_P g.1 vwCl ([] ++ dWL g (fun _ => 0) dI []) s.heap := fun k q h => by simp [dWL] at h
  have hD : va_D (dA g) ([] ++ dWL g (fun _ => 0) dI []) := ⟨fun i j x y h => by simp [dWL] at h, fun k q h => by simp [dWL] at h⟩
  have hS : va_S (dA g) s.heap s.heap [] := va_S.rf
  have hl := lv_entry ([Value.ref b]) (n := 8) (Nat.le_of_ble_eq_true rfl)
  rw [lg_entry_eq]
  generalize (lg_sl ([Value.ref b]) ++ List.replicate (8 - (lg_sl ([Value.ref b])).length) Slot.unset).toArray = ls at hl ⊢
  have hl : lv_has ls 8 [(0, .ref b)] := hl
  refine d_newo (mm := dI) (C := RX11) (T := TX11) (N := 8) (ci := 11) (fs := [.null, .null, .null, .null, .null, .null, .null, .null]) (k1 := 443) (k2 := 3369) (0) 444 tyX11 tyX11_ok S (inlX11) (hts (.classLink RL 8 RX11) (List.mem_of_getElem? (i := 76) (by decide +kernel))) (hts (.instantiable RX11 8) (List.mem_of_getElem? (i := 77) (by decide +kernel))) (hts (.initialized RX11) (List.mem_of_getElem? (i := 56) (by decide +kernel))) hE0 hAb hP hD hS hA rfl hfsX11 (fun q9 H9 locs9 c9 s9 hp hf => va_runI (As := []) (rest := [.ref q9]) S (kiX11 l g q9 _) (cwI 0 S.2.2.2.2 gL_law_X11_init rfl rfl rfl (hts (.initialized RX11) (List.mem_of_getElem? (i := 56) (by decide +kernel))) (hts (.methodLink RL 94 yX11_init) (List.mem_of_getElem? (i := 78) (by decide +kernel))) (hts (.instanceMethod yX11_init) (List.mem_of_getElem? (i := 79) (by decide +kernel))) rfl yniX11 ⟨(Nat.le_of_ble_eq_true rfl), (Nat.le_of_ble_eq_true rfl)⟩) hp rfl rfl hl.1 rfl (lv_room (Nat.le_of_ble_eq_true rfl)) dL_law_4 hf) (Nat.le_of_ble_eq_true rfl) (Nat.le_of_ble_eq_true rfl) dL_law_0 dL_law_3 (fun a1 H locs hP hD hS => ?_)
  obtain ⟨hP, hD⟩ := d_mix (L := []) (id := 0) (n := 444) (dAp_of (by decide +kernel)) hP hD
  refine lv_astore_n (lv' := [(1, .ref (a1 0)), (0, .ref b)]) S.1 S.2.1 dL_law_7 rfl hl (by decide) rfl (fun ls hl => ?_)
  refine d_newo (mm := dI) (C := RX12) (T := TX12) (N := 28) (ci := 12) (fs := [.int 0, .null, .null, .null, .null, .int 0, .null, .null, .int 0, .null, .null, .null, .null, .null, .null, .null, .null, .int 0, .int 0, .null, .null, .int 0, .int 0, .int 0, .int 0, .int 0, .null, .null]) (k1 := 18) (k2 := 2108) (444) 19 tyX12 tyX12_ok S (inlX12) (hts (.classLink RL 95 RX12) (List.mem_of_getElem? (i := 1085) (by decide +kernel))) (hts (.instantiable RX12 28) (List.mem_of_getElem? (i := 1086) (by decide +kernel))) (hts (.initialized RX12) (List.mem_of_getElem? (i := 69) (by decide +kernel))) hE0 hAb hP hD hS hA rfl hfsX12 (fun q9 H9 locs9 c9 s9 hp hf => va_runI (As := []) (rest := [.ref q9]) S (kiX12 l g q9 _) (cwI 0 S.2.2.2.2 gL_law_X12_init rfl rfl rfl (hts (.initialized RX12) (List.mem_of_getElem? (i := 69) (by decide +kernel))) (hts (.methodLink RL 97 yX12_init) (List.mem_of_getElem? (i := 1087) (by decide +kernel))) (hts (.instanceMethod yX12_init) (List.mem_of_getElem? (i := 1088) (by decide +kernel))) rfl yniX12 ⟨(Nat.le_of_ble_eq_true rfl), (Nat.le_of_ble_eq_true rfl)⟩) hp rfl rfl hl.1 rfl (lv_room (Nat.le_of_ble_eq_true rfl)) dL_law_12 hf) (Nat.le_of_ble_eq_true rfl) (Nat.le_of_ble_eq_true rfl) dL_law_8 dL_law_11 (fun a2 H locs hP hD hS => ?_)
  obtain ⟨hP, hD⟩ := d_mix (L := [] ++ List.range' 0 444) (id := 444) (n := 19) (dAp_of (by decide +kernel)) hP hD
  refine lv_astore_n (lv' := [(2, .ref (a2 444)), (1, .ref (a1 0)), (0, .ref b)]) S.1 S.2.1 dL_law_15 rfl hl (by decide) rfl (fun ls hl => ?_)
  refine lv_iconst (v := 1) S.1 S.2.1 dL_law_16 (by decide) ?_
  refine d_newJ (mm := dI) (N' := 1) 463 (by decide +kernel) (by decide +kernel) rfl S (hts (.arrayClass .long) (List.mem_of_getElem? (i := 215) (by decide +kernel))) hE0.1 hP hD hS hA (by decide) (by decide) (Nat.le_of_ble_eq_true rfl) (Nat.le_of_ble_eq_true rfl) (Nat.le_of_ble_eq_true rfl) dL_law_17 (fun a3 H hP hD hS => ?_)
  obtain ⟨hP, hD⟩ := d_mix (L := [] ++ List.range' 0 444 ++ List.range' 444 19) (id := 463) (n := 1) (dAp_of (by decide +kernel)) hP hD
  refine lv_astore_n (lv' := [(3, .ref (a3 463)), (2, .ref (a2 444)), (1, .ref (a1 0)), (0, .ref b)]) S.1 S.2.1 dL_law_19 rfl hl (by decide) rfl (fun ls hl => ?_)
  refine lv_iconst (v := 0) S.1 S.2.1 dL_law_20 (by decide) ?_
  obtain ⟨ad, had⟩ : ∃ z, z = dmix (dmix (dmix (fun _ => 0) a1 0 444) a2 444 19) a3 463 1 := ⟨_, rfl⟩
  rw [← had] at hP hD
  have e1 : a1 0 = ad 0 := by rw [had, dmix_out (by omega), dmix_out (by omega), dmix_in (by omega)]
  have e2 : a2 444 = ad 444 := by rw [had, dmix_out (by omega), dmix_in (by omega)]
  have e3 : a3 463 = ad 463 := by rw [had, dmix_in (by omega)]
  rw [e1, e2, e3] at hl
  refine lv_istore (lv' := [(4, .int 0), (3, .ref (ad 463)), (2, .ref (ad 444)), (1, .ref (ad 0)), (0, .ref b)]) S.1 S.2.1 dL_law_21 hl (by decide) rfl (fun ls hl => ?_)
  have eL : ([] ++ List.range' 0 444 ++ List.range' 444 19 ++ List.range' 463 1 : List Nat) = List.range 464 := by decide +kernel
  rw [eL] at hP hD
  have eW : ∀ m, dWL g ad m (List.range 464) = dws (dga g ad) m := fun m => rfl
  have hD2 : ∀ m, va_D (dA (dga g ad)) (dws (dga g ad) m) := fun m => by
    have h1 : va_D (dA g) (dwr (dga g ad) 0 464 dI) := by
      show va_D (dA g) (dWL g ad dI (List.range' 0 464))
      rw [← List.range_eq_range']; exact hD
    have h2 := dwr_D (m' := m) h1
    have h3 : dwr (dga g ad) 0 464 m = dws (dga g ad) m := by
      show dWL g ad m (List.range' 0 464) = _
      rw [← List.range_eq_range']; rfl
    rw [h3] at h2
    exact h2
  have hP : va_P (dga g ad).1 vwCl (dws (dga g ad) dI) H := hP
  have hE : dEnv (dga g ad) s := hE0.env hD2
  obtain ⟨r, hr2⟩ := hpure
  exact kLaw_loop (g := dga g ad) hst S hX hbl hbA (fun q h => by have h : g.2.2.2 ≤ q := h; rw [hg] at h; exact h) hE hL hr hlk dFl 0 dI r hr2 (by decide) H locs ls _ _ (Nat.le_of_ble_eq_true rfl) (Nat.le_of_ble_eq_true rfl) hP hS (lv_sub hl [0, 4, 3, 2, 1] rfl)
