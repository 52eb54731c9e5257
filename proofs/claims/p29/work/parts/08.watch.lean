set_option maxRecDepth 20000 in
theorem ggX6_measure_X9_squareTo : GoodIn wsX6_measure wsX9_squareTo := goodIn_r _ [8, 9, 10, 11, 12, 13, 14, 15, 20, 21] (by decide +kernel) (by decide +kernel)
set_option maxRecDepth 20000 in
theorem gX6_measure_X9_squareTo : GoodIn wsX6_measure (wsV RX6 83 RX9 yX9_squareTo wsX9_squareTo) := goodIn_app (goodIn_of _ (by decide +kernel)) ggX6_measure_X9_squareTo
theorem dX6_measure_0 : decode cX6_measure 0 = .ok (.iconst 0, 1) := by decide +kernel
theorem dX6_measure_1 : decode cX6_measure 1 = .ok (.istore_n 2, 1) := by decide +kernel
theorem dX6_measure_2 : decode cX6_measure 2 = .ok (.iload_n 2, 1) := by decide +kernel
theorem dX6_measure_3 : decode cX6_measure 3 = .ok (.iload_n 1, 1) := by decide +kernel
theorem dX6_measure_4 : decode cX6_measure 4 = .ok (.if_icmp .ge 66, 3) := by decide +kernel
theorem dX6_measure_7 : decode cX6_measure 7 = .ok (.aload_n 0, 1) := by decide +kernel
theorem dX6_measure_8 : decode cX6_measure 8 = .ok (.getfield 23, 3) := by decide +kernel
theorem dX6_measure_11 : decode cX6_measure 11 = .ok (.iload_n 2, 1) := by decide +kernel
theorem dX6_measure_12 : decode cX6_measure 12 = .ok (.aaload, 1) := by decide +kernel
theorem dX6_measure_13 : decode cX6_measure 13 = .ok (.iload_n 2, 1) := by decide +kernel
theorem dX6_measure_14 : decode cX6_measure 14 = .ok (.aload_n 0, 1) := by decide +kernel
theorem dX6_measure_15 : decode cX6_measure 15 = .ok (.getfield 18, 3) := by decide +kernel
theorem dX6_measure_18 : decode cX6_measure 18 = .ok (.iload_n 2, 1) := by decide +kernel
theorem dX6_measure_19 : decode cX6_measure 19 = .ok (.aload_n 0, 1) := by decide +kernel
theorem dX6_measure_20 : decode cX6_measure 20 = .ok (.getfield 12, 3) := by decide +kernel
theorem dX6_measure_23 : decode cX6_measure 23 = .ok (.iload_n 2, 1) := by decide +kernel
theorem dX6_measure_24 : decode cX6_measure 24 = .ok (.invokevirtual 83, 3) := by decide +kernel
theorem dX6_measure_27 : decode cX6_measure 27 = .ok (.iastore, 1) := by decide +kernel
theorem dX6_measure_28 : decode cX6_measure 28 = .ok (.iload_n 2, 1) := by decide +kernel
theorem dX6_measure_29 : decode cX6_measure 29 = .ok (.iconst 1, 1) := by decide +kernel
theorem dX6_measure_30 : decode cX6_measure 30 = .ok (.iadd, 1) := by decide +kernel
theorem dX6_measure_31 : decode cX6_measure 31 = .ok (.istore_n 3, 1) := by decide +kernel
theorem dX6_measure_32 : decode cX6_measure 32 = .ok (.iload_n 3, 1) := by decide +kernel
theorem dX6_measure_33 : decode cX6_measure 33 = .ok (.iload_n 1, 1) := by decide +kernel
theorem dX6_measure_34 : decode cX6_measure 34 = .ok (.if_icmp .ge 30, 3) := by decide +kernel
theorem dX6_measure_37 : decode cX6_measure 37 = .ok (.aload_n 0, 1) := by decide +kernel
theorem dX6_measure_38 : decode cX6_measure 38 = .ok (.getfield 23, 3) := by decide +kernel
theorem dX6_measure_41 : decode cX6_measure 41 = .ok (.iload_n 2, 1) := by decide +kernel
theorem dX6_measure_42 : decode cX6_measure 42 = .ok (.aaload, 1) := by decide +kernel
theorem dX6_measure_43 : decode cX6_measure 43 = .ok (.iload_n 3, 1) := by decide +kernel
theorem dX6_measure_44 : decode cX6_measure 44 = .ok (.aload_n 0, 1) := by decide +kernel
theorem dX6_measure_45 : decode cX6_measure 45 = .ok (.getfield 18, 3) := by decide +kernel
theorem dX6_measure_48 : decode cX6_measure 48 = .ok (.iload_n 2, 1) := by decide +kernel
theorem dX6_measure_49 : decode cX6_measure 49 = .ok (.aload_n 0, 1) := by decide +kernel
theorem dX6_measure_50 : decode cX6_measure 50 = .ok (.getfield 18, 3) := by decide +kernel
theorem dX6_measure_53 : decode cX6_measure 53 = .ok (.iload_n 3, 1) := by decide +kernel
theorem dX6_measure_54 : decode cX6_measure 54 = .ok (.invokevirtual 83, 3) := by decide +kernel
theorem dX6_measure_57 : decode cX6_measure 57 = .ok (.iastore, 1) := by decide +kernel
theorem dX6_measure_58 : decode cX6_measure 58 = .ok (.iinc 3 1, 3) := by decide +kernel
theorem dX6_measure_61 : decode cX6_measure 61 = .ok (.goto (-29), 3) := by decide +kernel
theorem dX6_measure_64 : decode cX6_measure 64 = .ok (.iinc 2 1, 3) := by decide +kernel
theorem dX6_measure_67 : decode cX6_measure 67 = .ok (.goto (-65), 3) := by decide +kernel
theorem dX6_measure_70 : decode cX6_measure 70 = .ok (.return_, 1) := by decide +kernel
def fX6_measure_l32 (p1 : Int32) (v2 : Int32) (v30 : Int32) (m31 : dM) : Option ((Int32 × dM) ⊕ dM) := if p1 ≤ v30 then some (.inr m31) else dg (dIx v2 (dL 379)) (dg (dkg (379 + 1 + (Int32.toNatClampNeg (v2))) 20) ((fX9_squareTo m31 376 v2 376 v30).bind (fun v39 => dg (dIx v30 (dL (379 + 1 + (Int32.toNatClampNeg (v2))))) (dlet (d1 m31 (379 + 1 + (Int32.toNatClampNeg (v2))) (Int32.toNatClampNeg (v30)) v39) (fun m40 => dlet (v30 + 1 : Int32) (fun v41 => some (.inl (v41, m40))))))))
def fX6_measure_l2 (p1 : Int32) (v2 : Int32) (m3 : dM) : Option ((Int32 × dM) ⊕ dM) := if p1 ≤ v2 then some (.inr m3) else dg (dIx v2 (dL 379)) (dg (dkg (379 + 1 + (Int32.toNatClampNeg (v2))) 20) ((fX9_squareTo m3 376 v2 373 v2).bind (fun v26 => dg (dIx v2 (dL (379 + 1 + (Int32.toNatClampNeg (v2))))) (dlet (d1 m3 (379 + 1 + (Int32.toNatClampNeg (v2))) (Int32.toNatClampNeg (v2)) v26) (fun m27 => dlet (v2 + 1 : Int32) (fun v28 => (dlp (fun q => dP2 q (fun v30 m31 => fX6_measure_l32 p1 v2 v30 m31)) dFl (v28, m27)).bind (fun q => dP1 q (fun m42 => dlet (v2 + 1 : Int32) (fun v43 => some (.inl (v43, m42)))))))))))
def fX6_measure (m : dM) (p0 : Nat) (p1 : Int32) : Option dM := dg (dkg p0 7) ((dlp (fun q => dP2 q (fun v2 m3 => fX6_measure_l2 p1 v2 m3)) dFl (0, m)).bind (fun q => dP1 q (fun m44 => some m44)))
set_option maxHeartbeats 4000000 in
set_option maxRecDepth 100000 in
theorem kX6_measure (l : Launch) (g : dG) {m : dM} {p0 : Nat} {p1 : Int32} {m0 : dM} (h : fX6_measure m p0 p1 = some m0) : dMet l g yX6_measure wsX6_measure (dRm 2 44) [.ref (dad g p0), .int p1] m (dQV g m0) := by
  refine dof (cc := cX6_measure) (maxL := 4) (ret := none) _ (plainFor_of_name (by decide)) rfl (Nat.le_of_ble_eq_true rfl) ?_
  intro p e s mth below meth c S hr hlk hE H ls hP hS hl
  have S : CallFix p mth c cX6_measure 4 s _ wsX6_measure RX6 := S
  have hl : lv_has ls 4 [(0, .ref (dad g p0)), (1, .int p1)] := hl
  obtain ⟨locs, hlocs⟩ : ∃ z : List Loc, z = [] := ⟨_, rfl⟩
  rw [← hlocs] at hS ⊢
  have in6 : ∀ w ∈ wsX60, w ∈ wsX6_measure := by decide +kernel
  unfold fX6_measure at h
  obtain ⟨k0, h⟩ := d_g h
  have k0 := d_k k0
  refine lv_iconst (v := 0) S.1 S.2.1 dX6_measure_0 (by decide) ?_
  refine lv_istore_n (lv' := [(2, .int 0), (0, .ref (dad g p0)), (1, .int p1)]) S.1 S.2.1 dX6_measure_1 rfl hl (by decide) rfl (fun ls hl => ?_)
  obtain ⟨qL1, hqL1, h⟩ := d_b h
  refine d_lp (Hd := fun q => match q with | (v2, m3) => ∀ (H : Heap) (locs : List Loc) (ls : Array Slot), va_P g.1 vwCl (dws g m3) H → va_S (dA g) s.heap H locs → lv_has ls 4 [(2, .int v2), (0, .ref (dad g p0)), (1, .int p1)] → W p l e (headSpec wsX6_measure (dRm 2 44)).room s mth (([.ref (dad g p0), .int p1] : List Value).toArray) below meth c H locs 0 0 (MQ below (dQV g m0) (([.ref (dad g p0), .int p1] : List Value).toArray) s 0 0 (dA g)) (F0 mth 2 ls [])) (K := fun q => (fun (m44 : _) => ∀ (H : Heap) (locs : List Loc) (ls : Array Slot), va_P g.1 vwCl (dws g m44) H → va_S (dA g) s.heap H locs → lv_has ls 4 [] → W p l e (headSpec wsX6_measure (dRm 2 44)).room s mth (([.ref (dad g p0), .int p1] : List Value).toArray) below meth c H locs 0 0 (MQ below (dQV g m0) (([.ref (dad g p0), .int p1] : List Value).toArray) s 0 0 (dA g)) (F0 mth 70 ls [])) q) ?_ dFl _ qL1 hqL1 ?_ H locs ls hP hS (lv_sub hl [0, 1, 2] rfl)
  · intro q o h hCL1 hEL1
    obtain ⟨v2, m3⟩ := q
    have h : fX6_measure_l2 p1 v2 m3 = some o := h
    intro H locs ls hP hS hl
    have hP : va_P g.1 vwCl (dws g m3) H := hP
    have hl : lv_has ls 4 [(2, .int v2), (0, .ref (dad g p0)), (1, .int p1)] := hl
    unfold fX6_measure_l2 at h
    refine lv_iload_n S.1 S.2.1 dX6_measure_2 rfl (lv_at hl 0 rfl) ?_
    refine lv_iload_n S.1 S.2.1 dX6_measure_3 rfl (lv_at hl 2 rfl) ?_
    refine lv_icmp_ge (tgt := 70) S.1 S.2.1 dX6_measure_4 (by decide) (fun cq => ?_) (fun cq => ?_)
    · have h := d_t cq h
      obtain rfl := Option.some.inj h
      exact hEL1 _ rfl H locs ls hP hS (lv_sub hl [] rfl)
    · have h := d_f cq h
      refine lv_aload_n S.1 S.2.1 dX6_measure_7 rfl (lv_at hl 1 rfl) ?_
      refine dgf6_2 S in6 hE hP k0 (S.2.2.2.2 (.fieldLink RX6 23 "DrillField$Recount" "squares" "[[I") (List.mem_of_getElem? (i := 1) rfl)) dX6_measure_8 ?_
      refine lv_iload_n S.1 S.2.1 dX6_measure_11 rfl (lv_at hl 0 rfl) ?_
      obtain ⟨hi, h⟩ := d_g h
      obtain ⟨hk24, h⟩ := d_g h
      have hk24 := d_k hk24
      refine d_aald (r := dad g (379 + 1 + (Int32.toNatClampNeg (v2)))) (ty := .array .int) 5 S hE hP (dat25 dk_379) rfl rfl hi (if_pos (dIx_lt hi)) dX6_measure_12 ?_
      refine lv_iload_n S.1 S.2.1 dX6_measure_13 rfl (lv_at hl 0 rfl) ?_
      refine lv_aload_n S.1 S.2.1 dX6_measure_14 rfl (lv_at hl 1 rfl) ?_
      refine dgf6_1 S in6 hE hP k0 (S.2.2.2.2 (.fieldLink RX6 18 "DrillField$Recount" "now" "LDrillField$Spots;") (List.mem_of_getElem? (i := 2) rfl)) dX6_measure_15 ?_
      refine lv_iload_n S.1 S.2.1 dX6_measure_18 rfl (lv_at hl 0 rfl) ?_
      refine lv_aload_n S.1 S.2.1 dX6_measure_19 rfl (lv_at hl 1 rfl) ?_
      refine dgf6_0 S in6 hE hP k0 (S.2.2.2.2 (.fieldLink RX6 12 "DrillField$Recount" "before" "LDrillField$Spots;") (List.mem_of_getElem? (i := 3) rfl)) dX6_measure_20 ?_
      refine lv_iload_n S.1 S.2.1 dX6_measure_23 rfl (lv_at hl 0 rfl) ?_
      obtain ⟨v26, hc25, h⟩ := d_b h
      refine dri (va_runV (As := [.int v2, .ref (dad g 373), .int v2]) (rest := [.int v2, .ref (dad g (379 + 1 + (Int32.toNatClampNeg (v2))))]) S (kX9_squareTo l g hc25) (cwV 3 S.2.2.2.2 gX6_measure_X9_squareTo rfl rfl rfl ynX9_squareTo ⟨Nat.le_of_ble_eq_true rfl, Nat.le_of_ble_eq_true rfl⟩) (dpV hE hP hS (ci := 9) rfl (dat10 dk_376)) rfl rfl hl.1 rfl (lv_room (Nat.le_of_ble_eq_true rfl)) dX6_measure_24 ⟨Nat.le_of_ble_eq_true rfl, Nat.le_of_ble_eq_true rfl⟩) hS (fun H locs hP hS => ?_)
      obtain ⟨hi, h⟩ := d_g h
      refine d_iast S hE hP hS hk24 hi dX6_measure_27 (fun H locs hP hS => ?_)
      obtain ⟨m27, em27⟩ : ∃ z : dM, z = d1 m3 (379 + 1 + (Int32.toNatClampNeg (v2))) (Int32.toNatClampNeg (v2)) v26 := ⟨_, rfl⟩
      have h := d_let em27 h
      rw [← em27] at hP
      refine lv_iload_n S.1 S.2.1 dX6_measure_28 rfl (lv_at hl 0 rfl) ?_
      refine lv_iconst (v := 1) S.1 S.2.1 dX6_measure_29 (by decide) ?_
      refine lv_iadd S.1 S.2.1 dX6_measure_30 ?_
      refine lv_topi (fun v28 ev28 => ?_)
      have h := d_let ev28 h
      refine lv_istore_n (lv' := [(3, .int v28), (2, .int v2), (0, .ref (dad g p0)), (1, .int p1)]) S.1 S.2.1 dX6_measure_31 rfl hl (by decide) rfl (fun ls hl => ?_)
      obtain ⟨qL29, hqL29, h⟩ := d_b h
      refine d_lp (Hd := fun q => match q with | (v30, m31) => ∀ (H : Heap) (locs : List Loc) (ls : Array Slot), va_P g.1 vwCl (dws g m31) H → va_S (dA g) s.heap H locs → lv_has ls 4 [(3, .int v30), (2, .int v2), (0, .ref (dad g p0)), (1, .int p1)] → W p l e (headSpec wsX6_measure (dRm 2 44)).room s mth (([.ref (dad g p0), .int p1] : List Value).toArray) below meth c H locs 0 0 (MQ below (dQV g m0) (([.ref (dad g p0), .int p1] : List Value).toArray) s 0 0 (dA g)) (F0 mth 32 ls [])) (K := fun q => (fun (m42 : _) => ∀ (H : Heap) (locs : List Loc) (ls : Array Slot), va_P g.1 vwCl (dws g m42) H → va_S (dA g) s.heap H locs → lv_has ls 4 [(0, .ref (dad g p0)), (1, .int p1), (2, .int v2)] → W p l e (headSpec wsX6_measure (dRm 2 44)).room s mth (([.ref (dad g p0), .int p1] : List Value).toArray) below meth c H locs 0 0 (MQ below (dQV g m0) (([.ref (dad g p0), .int p1] : List Value).toArray) s 0 0 (dA g)) (F0 mth 64 ls [])) q) ?_ dFl _ qL29 hqL29 ?_ H locs ls hP hS (lv_sub hl [0, 1, 2, 3] rfl)
      · intro q o h hCL29 hEL29
        obtain ⟨v30, m31⟩ := q
        have h : fX6_measure_l32 p1 v2 v30 m31 = some o := h
        intro H locs ls hP hS hl
        have hP : va_P g.1 vwCl (dws g m31) H := hP
        have hl : lv_has ls 4 [(3, .int v30), (2, .int v2), (0, .ref (dad g p0)), (1, .int p1)] := hl
        unfold fX6_measure_l32 at h
        refine lv_iload_n S.1 S.2.1 dX6_measure_32 rfl (lv_at hl 0 rfl) ?_
        refine lv_iload_n S.1 S.2.1 dX6_measure_33 rfl (lv_at hl 3 rfl) ?_
        refine lv_icmp_ge (tgt := 64) S.1 S.2.1 dX6_measure_34 (by decide) (fun cq => ?_) (fun cq => ?_)
        · have h := d_t cq h
          obtain rfl := Option.some.inj h
          exact hEL29 _ rfl H locs ls hP hS (lv_sub hl [2, 3, 1] rfl)
        · have h := d_f cq h
          refine lv_aload_n S.1 S.2.1 dX6_measure_37 rfl (lv_at hl 2 rfl) ?_
          refine dgf6_2 S in6 hE hP k0 (S.2.2.2.2 (.fieldLink RX6 23 "DrillField$Recount" "squares" "[[I") (List.mem_of_getElem? (i := 1) rfl)) dX6_measure_38 ?_
          refine lv_iload_n S.1 S.2.1 dX6_measure_41 rfl (lv_at hl 1 rfl) ?_
          obtain ⟨hi, h⟩ := d_g h
          obtain ⟨hk37, h⟩ := d_g h
          have hk37 := d_k hk37
          refine d_aald (r := dad g (379 + 1 + (Int32.toNatClampNeg (v2)))) (ty := .array .int) 5 S hE hP (dat25 dk_379) rfl rfl hi (if_pos (dIx_lt hi)) dX6_measure_42 ?_
          refine lv_iload_n S.1 S.2.1 dX6_measure_43 rfl (lv_at hl 0 rfl) ?_
          refine lv_aload_n S.1 S.2.1 dX6_measure_44 rfl (lv_at hl 2 rfl) ?_
          refine dgf6_1 S in6 hE hP k0 (S.2.2.2.2 (.fieldLink RX6 18 "DrillField$Recount" "now" "LDrillField$Spots;") (List.mem_of_getElem? (i := 2) rfl)) dX6_measure_45 ?_
          refine lv_iload_n S.1 S.2.1 dX6_measure_48 rfl (lv_at hl 1 rfl) ?_
          refine lv_aload_n S.1 S.2.1 dX6_measure_49 rfl (lv_at hl 2 rfl) ?_
          refine dgf6_1 S in6 hE hP k0 (S.2.2.2.2 (.fieldLink RX6 18 "DrillField$Recount" "now" "LDrillField$Spots;") (List.mem_of_getElem? (i := 2) rfl)) dX6_measure_50 ?_
          refine lv_iload_n S.1 S.2.1 dX6_measure_53 rfl (lv_at hl 0 rfl) ?_
          obtain ⟨v39, hc38, h⟩ := d_b h
          refine dri (va_runV (As := [.int v2, .ref (dad g 376), .int v30]) (rest := [.int v30, .ref (dad g (379 + 1 + (Int32.toNatClampNeg (v2))))]) S (kX9_squareTo l g hc38) (cwV 3 S.2.2.2.2 gX6_measure_X9_squareTo rfl rfl rfl ynX9_squareTo ⟨Nat.le_of_ble_eq_true rfl, Nat.le_of_ble_eq_true rfl⟩) (dpV hE hP hS (ci := 9) rfl (dat10 dk_376)) rfl rfl hl.1 rfl (lv_room (Nat.le_of_ble_eq_true rfl)) dX6_measure_54 ⟨Nat.le_of_ble_eq_true rfl, Nat.le_of_ble_eq_true rfl⟩) hS (fun H locs hP hS => ?_)
          obtain ⟨hi, h⟩ := d_g h
          refine d_iast S hE hP hS hk37 hi dX6_measure_57 (fun H locs hP hS => ?_)
          obtain ⟨m40, em40⟩ : ∃ z : dM, z = d1 m31 (379 + 1 + (Int32.toNatClampNeg (v2))) (Int32.toNatClampNeg (v30)) v39 := ⟨_, rfl⟩
          have h := d_let em40 h
          rw [← em40] at hP
          obtain ⟨v41, ev41⟩ : ∃ z : Int32, z = v30 + 1 := ⟨_, rfl⟩
          have h := d_let ev41 h
          refine lv_iinc (v := v41) (lv' := [(3, .int v41), (2, .int v2), (0, .ref (dad g p0)), (1, .int p1)]) S.1 S.2.1 dX6_measure_58 hl (k := 0) rfl (by rw [ev41]; rfl) (by decide) rfl (fun ls hl => ?_)
          refine lv_goto (tgt := 32) S.1 S.2.1 dX6_measure_61 (by decide) ?_
          obtain rfl := Option.some.inj h
          exact hCL29 _ rfl H locs ls hP hS (lv_sub hl [0, 1, 2, 3] rfl)
      · obtain ⟨m42, rfl⟩ : ∃ z, z = qL29 := ⟨_, rfl⟩
        have h := d_p1 h
        intro H locs ls hP hS hl
        have hP : va_P g.1 vwCl (dws g m42) H := hP
        have hl : lv_has ls 4 [(0, .ref (dad g p0)), (1, .int p1), (2, .int v2)] := hl
        obtain ⟨v43, ev43⟩ : ∃ z : Int32, z = v2 + 1 := ⟨_, rfl⟩
        have h := d_let ev43 h
        refine lv_iinc (v := v43) (lv' := [(2, .int v43), (0, .ref (dad g p0)), (1, .int p1)]) S.1 S.2.1 dX6_measure_64 hl (k := 2) rfl (by rw [ev43]; rfl) (by decide) rfl (fun ls hl => ?_)
        refine lv_goto (tgt := 2) S.1 S.2.1 dX6_measure_67 (by decide) ?_
        obtain rfl := Option.some.inj h
        exact hCL1 _ rfl H locs ls hP hS (lv_sub hl [0, 1, 2] rfl)
  · obtain ⟨m44, rfl⟩ : ∃ z, z = qL1 := ⟨_, rfl⟩
    have h := d_p1 h
    intro H locs ls hP hS hl
    have hP : va_P g.1 vwCl (dws g m44) H := hP
    have hl : lv_has ls 4 [] := hl
    obtain rfl := Option.some.inj h
    exact dtv S hr hlk hE hP hS dX6_measure_70
set_option maxRecDepth 20000 in
theorem ggX6_recountSteps_X2_isFound : GoodIn wsX6_recountSteps wsX2_isFound := goodIn_r _ [7, 8, 46, 47, 48, 49] (by decide +kernel) (by decide +kernel)
set_option maxRecDepth 20000 in
theorem gX6_recountSteps_X2_isFound : GoodIn wsX6_recountSteps (wsV RX6 57 RX2 yX2_isFound wsX2_isFound) := goodIn_app (goodIn_of _ (by decide +kernel)) ggX6_recountSteps_X2_isFound
set_option maxRecDepth 20000 in
theorem ggX6_recountSteps_X1_marches : GoodIn wsX6_recountSteps wsX1_marches := goodIn_r _ [13, 14, 15, 16, 17, 18, 19, 50, 51, 52, 53, 54] (by decide +kernel) (by decide +kernel)
set_option maxRecDepth 20000 in
theorem gX6_recountSteps_X1_marches : GoodIn wsX6_recountSteps (wsV RX6 87 RX1 yX1_marches wsX1_marches) := goodIn_app (goodIn_of _ (by decide +kernel)) ggX6_recountSteps_X1_marches
set_option maxRecDepth 20000 in
theorem ggX6_recountSteps_X1_stepSquare : GoodIn wsX6_recountSteps wsX1_stepSquare := goodIn_r _ [23, 24, 25, 26, 12, 27, 28, 17, 18, 19, 29, 30, 31, 32, 33, 34, 50, 51, 52, 53, 54] (by decide +kernel) (by decide +kernel)
set_option maxRecDepth 20000 in
theorem gX6_recountSteps_X1_stepSquare : GoodIn wsX6_recountSteps (wsV RX6 91 RX1 yX1_stepSquare wsX1_stepSquare) := goodIn_app (goodIn_of _ (by decide +kernel)) ggX6_recountSteps_X1_stepSquare
set_option maxRecDepth 20000 in
theorem ggX6_recountSteps_X2_tell : GoodIn wsX6_recountSteps wsX2_tell := goodIn_r _ [38, 8, 39, 40, 41, 46, 47, 48, 49] (by decide +kernel) (by decide +kernel)
set_option maxRecDepth 20000 in
theorem gX6_recountSteps_X2_tell : GoodIn wsX6_recountSteps (wsV RX6 94 RX2 yX2_tell wsX2_tell) := goodIn_app (goodIn_of _ (by decide +kernel)) ggX6_recountSteps_X2_tell
theorem dX6_recountSteps_0 : decode cX6_recountSteps 0 = .ok (.iconst 0, 1) := by decide +kernel
theorem dX6_recountSteps_1 : decode cX6_recountSteps 1 = .ok (.istore 5, 2) := by decide +kernel
theorem dX6_recountSteps_3 : decode cX6_recountSteps 3 = .ok (.iload 5, 2) := by decide +kernel
theorem dX6_recountSteps_5 : decode cX6_recountSteps 5 = .ok (.iload 4, 2) := by decide +kernel
theorem dX6_recountSteps_7 : decode cX6_recountSteps 7 = .ok (.if_icmp .ge 60, 3) := by decide +kernel
theorem dX6_recountSteps_10 : decode cX6_recountSteps 10 = .ok (.aload_n 0, 1) := by decide +kernel
theorem dX6_recountSteps_11 : decode cX6_recountSteps 11 = .ok (.getfield 29, 3) := by decide +kernel
theorem dX6_recountSteps_14 : decode cX6_recountSteps 14 = .ok (.invokevirtual 57, 3) := by decide +kernel
theorem dX6_recountSteps_17 : decode cX6_recountSteps 17 = .ok (.ifCond .ne 50, 3) := by decide +kernel
theorem dX6_recountSteps_20 : decode cX6_recountSteps 20 = .ok (.aload_n 3, 1) := by decide +kernel
theorem dX6_recountSteps_21 : decode cX6_recountSteps 21 = .ok (.iload 5, 2) := by decide +kernel
theorem dX6_recountSteps_23 : decode cX6_recountSteps 23 = .ok (.invokevirtual 87, 3) := by decide +kernel
theorem dX6_recountSteps_26 : decode cX6_recountSteps 26 = .ok (.ifCond .eq 35, 3) := by decide +kernel
theorem dX6_recountSteps_29 : decode cX6_recountSteps 29 = .ok (.aload_n 0, 1) := by decide +kernel
theorem dX6_recountSteps_30 : decode cX6_recountSteps 30 = .ok (.getfield 23, 3) := by decide +kernel
theorem dX6_recountSteps_33 : decode cX6_recountSteps 33 = .ok (.iload 5, 2) := by decide +kernel
theorem dX6_recountSteps_35 : decode cX6_recountSteps 35 = .ok (.aaload, 1) := by decide +kernel
theorem dX6_recountSteps_36 : decode cX6_recountSteps 36 = .ok (.iload 5, 2) := by decide +kernel
theorem dX6_recountSteps_38 : decode cX6_recountSteps 38 = .ok (.iaload, 1) := by decide +kernel
theorem dX6_recountSteps_39 : decode cX6_recountSteps 39 = .ok (.aload_n 3, 1) := by decide +kernel
theorem dX6_recountSteps_40 : decode cX6_recountSteps 40 = .ok (.iload 5, 2) := by decide +kernel
theorem dX6_recountSteps_42 : decode cX6_recountSteps 42 = .ok (.iload_n 2, 1) := by decide +kernel
theorem dX6_recountSteps_43 : decode cX6_recountSteps 43 = .ok (.invokevirtual 91, 3) := by decide +kernel
theorem dX6_recountSteps_46 : decode cX6_recountSteps 46 = .ok (.if_icmp .le 15, 3) := by decide +kernel
theorem dX6_recountSteps_49 : decode cX6_recountSteps 49 = .ok (.aload_n 0, 1) := by decide +kernel
theorem dX6_recountSteps_50 : decode cX6_recountSteps 50 = .ok (.getfield 29, 3) := by decide +kernel
theorem dX6_recountSteps_53 : decode cX6_recountSteps 53 = .ok (.iload_n 1, 1) := by decide +kernel
theorem dX6_recountSteps_54 : decode cX6_recountSteps 54 = .ok (.iconst 0, 1) := by decide +kernel
theorem dX6_recountSteps_55 : decode cX6_recountSteps 55 = .ok (.iload 5, 2) := by decide +kernel
theorem dX6_recountSteps_57 : decode cX6_recountSteps 57 = .ok (.iconst (-1), 1) := by decide +kernel
theorem dX6_recountSteps_58 : decode cX6_recountSteps 58 = .ok (.invokevirtual 94, 3) := by decide +kernel
theorem dX6_recountSteps_61 : decode cX6_recountSteps 61 = .ok (.iinc 5 1, 3) := by decide +kernel
theorem dX6_recountSteps_64 : decode cX6_recountSteps 64 = .ok (.goto (-61), 3) := by decide +kernel
theorem dX6_recountSteps_67 : decode cX6_recountSteps 67 = .ok (.return_, 1) := by decide +kernel
def fX6_recountSteps_l3 (p1 : Int32) (p2 : Int32) (p3 : Nat) (p4 : Int32) (v2 : Int32) (m3 : dM) : Option ((Int32 × dM) ⊕ dM) := if p4 ≤ v2 then some (.inr m3) else (fX2_isFound m3 390).bind (fun v17 => if v17 = 0 then (fX1_marches m3 p3 v2).bind (fun v19 => if v19 = 0 then dlet (v2 + 1 : Int32) (fun v20 => some (.inl (v20, m3))) else dg (dIx v2 (dL 379)) (dg (dkg (379 + 1 + (Int32.toNatClampNeg (v2))) 20) (dg (dIx v2 (dL (379 + 1 + (Int32.toNatClampNeg (v2))))) ((fX1_stepSquare m3 p3 v2 p2).bind (fun v23 => if (m3.1 (379 + 1 + (Int32.toNatClampNeg (v2))) (Int32.toNatClampNeg (v2))) ≤ v23 then dlet (v2 + 1 : Int32) (fun v24 => some (.inl (v24, m3))) else (fX2_tell m3 390 p1 0 v2 (-1)).bind (fun m26 => dlet (v2 + 1 : Int32) (fun v27 => some (.inl (v27, m26))))))))) else some (.inr m3))
def fX6_recountSteps (m : dM) (p0 : Nat) (p1 : Int32) (p2 : Int32) (p3 : Nat) (p4 : Int32) : Option dM := dg (dkg p0 7) (dg (dkg p3 2) ((dlp (fun q => dP2 q (fun v2 m3 => fX6_recountSteps_l3 p1 p2 p3 p4 v2 m3)) dFl (0, m)).bind (fun q => dP1 q (fun m28 => some m28))))
set_option maxHeartbeats 4000000 in
set_option maxRecDepth 100000 in
theorem kX6_recountSteps (l : Launch) (g : dG) {m : dM} {p0 : Nat} {p1 : Int32} {p2 : Int32} {p3 : Nat} {p4 : Int32} {m0 : dM} (h : fX6_recountSteps m p0 p1 p2 p3 p4 = some m0) : dMet l g yX6_recountSteps wsX6_recountSteps (dRm 3 66) [.ref (dad g p0), .int p1, .int p2, .ref (dad g p3), .int p4] m (dQV g m0) := by
  refine dof (cc := cX6_recountSteps) (maxL := 6) (ret := none) _ (plainFor_of_name (by decide)) rfl (Nat.le_of_ble_eq_true rfl) ?_
  intro p e s mth below meth c S hr hlk hE H ls hP hS hl
  have S : CallFix p mth c cX6_recountSteps 6 s _ wsX6_recountSteps RX6 := S
  have hl : lv_has ls 6 [(0, .ref (dad g p0)), (1, .int p1), (2, .int p2), (3, .ref (dad g p3)), (4, .int p4)] := hl
  obtain ⟨locs, hlocs⟩ : ∃ z : List Loc, z = [] := ⟨_, rfl⟩
  rw [← hlocs] at hS ⊢
  have in6 : ∀ w ∈ wsX60, w ∈ wsX6_recountSteps := by decide +kernel
  unfold fX6_recountSteps at h
  obtain ⟨k0, h⟩ := d_g h
  have k0 := d_k k0
  obtain ⟨k3, h⟩ := d_g h
  have k3 := d_k k3
  refine lv_iconst (v := 0) S.1 S.2.1 dX6_recountSteps_0 (by decide) ?_
  refine lv_istore (lv' := [(5, .int 0), (0, .ref (dad g p0)), (1, .int p1), (2, .int p2), (3, .ref (dad g p3)), (4, .int p4)]) S.1 S.2.1 dX6_recountSteps_1 hl (by decide) rfl (fun ls hl => ?_)
  obtain ⟨qL1, hqL1, h⟩ := d_b h
  refine d_lp (Hd := fun q => match q with | (v2, m3) => ∀ (H : Heap) (locs : List Loc) (ls : Array Slot), va_P g.1 vwCl (dws g m3) H → va_S (dA g) s.heap H locs → lv_has ls 6 [(5, .int v2), (0, .ref (dad g p0)), (1, .int p1), (2, .int p2), (3, .ref (dad g p3)), (4, .int p4)] → W p l e (headSpec wsX6_recountSteps (dRm 3 66)).room s mth (([.ref (dad g p0), .int p1, .int p2, .ref (dad g p3), .int p4] : List Value).toArray) below meth c H locs 0 0 (MQ below (dQV g m0) (([.ref (dad g p0), .int p1, .int p2, .ref (dad g p3), .int p4] : List Value).toArray) s 0 0 (dA g)) (F0 mth 3 ls [])) (K := fun q => (fun (m28 : _) => ∀ (H : Heap) (locs : List Loc) (ls : Array Slot), va_P g.1 vwCl (dws g m28) H → va_S (dA g) s.heap H locs → lv_has ls 6 [] → W p l e (headSpec wsX6_recountSteps (dRm 3 66)).room s mth (([.ref (dad g p0), .int p1, .int p2, .ref (dad g p3), .int p4] : List Value).toArray) below meth c H locs 0 0 (MQ below (dQV g m0) (([.ref (dad g p0), .int p1, .int p2, .ref (dad g p3), .int p4] : List Value).toArray) s 0 0 (dA g)) (F0 mth 67 ls [])) q) ?_ dFl _ qL1 hqL1 ?_ H locs ls hP hS (lv_sub hl [0, 1, 2, 3, 4, 5] rfl)
  · intro q o h hCL1 hEL1
    obtain ⟨v2, m3⟩ := q
    have h : fX6_recountSteps_l3 p1 p2 p3 p4 v2 m3 = some o := h
    intro H locs ls hP hS hl
    have hP : va_P g.1 vwCl (dws g m3) H := hP
    have hl : lv_has ls 6 [(5, .int v2), (0, .ref (dad g p0)), (1, .int p1), (2, .int p2), (3, .ref (dad g p3)), (4, .int p4)] := hl
    unfold fX6_recountSteps_l3 at h
    refine lv_iload S.1 S.2.1 dX6_recountSteps_3 (lv_at hl 0 rfl) ?_
    refine lv_iload S.1 S.2.1 dX6_recountSteps_5 (lv_at hl 5 rfl) ?_
    refine lv_icmp_ge (tgt := 67) S.1 S.2.1 dX6_recountSteps_7 (by decide) (fun cq => ?_) (fun cq => ?_)
    · have h := d_t cq h
      obtain rfl := Option.some.inj h
      exact hEL1 _ rfl H locs ls hP hS (lv_sub hl [] rfl)
    · have h := d_f cq h
      refine lv_aload_n S.1 S.2.1 dX6_recountSteps_10 rfl (lv_at hl 1 rfl) ?_
      refine dgf6_3 S in6 hE hP k0 (S.2.2.2.2 (.fieldLink RX6 29 "DrillField$Recount" "found" "LDrillField$Fault;") (List.mem_of_getElem? (i := 1) rfl)) dX6_recountSteps_11 ?_
      obtain ⟨v17, hc16, h⟩ := d_b h
      refine dri (va_runV (As := []) (rest := []) S (kX2_isFound l g hc16) (cwV 0 S.2.2.2.2 gX6_recountSteps_X2_isFound rfl rfl rfl ynX2_isFound ⟨Nat.le_of_ble_eq_true rfl, Nat.le_of_ble_eq_true rfl⟩) (dpV hE hP hS (ci := 2) rfl (dat3 dk_390)) rfl rfl hl.1 rfl (lv_room (Nat.le_of_ble_eq_true rfl)) dX6_recountSteps_14 ⟨Nat.le_of_ble_eq_true rfl, Nat.le_of_ble_eq_true rfl⟩) hS (fun H locs hP hS => ?_)
      refine lv_if_ne (tgt := 67) S.1 S.2.1 dX6_recountSteps_17 (by decide) (fun cq => ?_) (fun cq => ?_)
      · have h := d_f cq h
        obtain rfl := Option.some.inj h
        exact hEL1 _ rfl H locs ls hP hS (lv_sub hl [] rfl)
      · have h := d_t cq h
        refine lv_aload_n S.1 S.2.1 dX6_recountSteps_20 rfl (lv_at hl 4 rfl) ?_
        refine lv_iload S.1 S.2.1 dX6_recountSteps_21 (lv_at hl 0 rfl) ?_
        obtain ⟨v19, hc18, h⟩ := d_b h
        refine dri (va_runV (As := [.int v2]) (rest := []) S (kX1_marches l g hc18) (cwV 1 S.2.2.2.2 gX6_recountSteps_X1_marches rfl rfl rfl ynX1_marches ⟨Nat.le_of_ble_eq_true rfl, Nat.le_of_ble_eq_true rfl⟩) (dpV hE hP hS (ci := 1) rfl (dat2 k3)) rfl rfl hl.1 rfl (lv_room (Nat.le_of_ble_eq_true rfl)) dX6_recountSteps_23 ⟨Nat.le_of_ble_eq_true rfl, Nat.le_of_ble_eq_true rfl⟩) hS (fun H locs hP hS => ?_)
        refine lv_if_eq (tgt := 61) S.1 S.2.1 dX6_recountSteps_26 (by decide) (fun cq => ?_) (fun cq => ?_)
        · have h := d_t cq h
          obtain ⟨v20, ev20⟩ : ∃ z : Int32, z = v2 + 1 := ⟨_, rfl⟩
          have h := d_let ev20 h
          refine lv_iinc (v := v20) (lv' := [(5, .int v20), (0, .ref (dad g p0)), (1, .int p1), (2, .int p2), (3, .ref (dad g p3)), (4, .int p4)]) S.1 S.2.1 dX6_recountSteps_61 hl (k := 0) rfl (by rw [ev20]; rfl) (by decide) rfl (fun ls hl => ?_)
          refine lv_goto (tgt := 3) S.1 S.2.1 dX6_recountSteps_64 (by decide) ?_
          obtain rfl := Option.some.inj h
          exact hCL1 _ rfl H locs ls hP hS (lv_sub hl [0, 1, 2, 3, 4, 5] rfl)
        · have h := d_f cq h
          refine lv_aload_n S.1 S.2.1 dX6_recountSteps_29 rfl (lv_at hl 1 rfl) ?_
          refine dgf6_2 S in6 hE hP k0 (S.2.2.2.2 (.fieldLink RX6 23 "DrillField$Recount" "squares" "[[I") (List.mem_of_getElem? (i := 2) rfl)) dX6_recountSteps_30 ?_
          refine lv_iload S.1 S.2.1 dX6_recountSteps_33 (lv_at hl 0 rfl) ?_
          obtain ⟨hi, h⟩ := d_g h
          obtain ⟨hk21, h⟩ := d_g h
          have hk21 := d_k hk21
          refine d_aald (r := dad g (379 + 1 + (Int32.toNatClampNeg (v2)))) (ty := .array .int) 5 S hE hP (dat25 dk_379) rfl rfl hi (if_pos (dIx_lt hi)) dX6_recountSteps_35 ?_
          refine lv_iload S.1 S.2.1 dX6_recountSteps_36 (lv_at hl 0 rfl) ?_
          obtain ⟨hi, h⟩ := d_g h
          refine d_iald S hE hP hk21 hi dX6_recountSteps_38 ?_
          refine lv_aload_n S.1 S.2.1 dX6_recountSteps_39 rfl (lv_at hl 4 rfl) ?_
          refine lv_iload S.1 S.2.1 dX6_recountSteps_40 (lv_at hl 0 rfl) ?_
          refine lv_iload_n S.1 S.2.1 dX6_recountSteps_42 rfl (lv_at hl 3 rfl) ?_
          obtain ⟨v23, hc22, h⟩ := d_b h
          refine dri (va_runV (As := [.int v2, .int p2]) (rest := [.int (m3.1 (379 + 1 + (Int32.toNatClampNeg (v2))) (Int32.toNatClampNeg (v2)))]) S (kX1_stepSquare l g hc22) (cwV 2 S.2.2.2.2 gX6_recountSteps_X1_stepSquare rfl rfl rfl ynX1_stepSquare ⟨Nat.le_of_ble_eq_true rfl, Nat.le_of_ble_eq_true rfl⟩) (dpV hE hP hS (ci := 1) rfl (dat2 k3)) rfl rfl hl.1 rfl (lv_room (Nat.le_of_ble_eq_true rfl)) dX6_recountSteps_43 ⟨Nat.le_of_ble_eq_true rfl, Nat.le_of_ble_eq_true rfl⟩) hS (fun H locs hP hS => ?_)
          refine lv_icmp_le (tgt := 61) S.1 S.2.1 dX6_recountSteps_46 (by decide) (fun cq => ?_) (fun cq => ?_)
          · have h := d_t cq h
            obtain ⟨v24, ev24⟩ : ∃ z : Int32, z = v2 + 1 := ⟨_, rfl⟩
            have h := d_let ev24 h
            refine lv_iinc (v := v24) (lv' := [(5, .int v24), (0, .ref (dad g p0)), (1, .int p1), (2, .int p2), (3, .ref (dad g p3)), (4, .int p4)]) S.1 S.2.1 dX6_recountSteps_61 hl (k := 0) rfl (by rw [ev24]; rfl) (by decide) rfl (fun ls hl => ?_)
            refine lv_goto (tgt := 3) S.1 S.2.1 dX6_recountSteps_64 (by decide) ?_
            obtain rfl := Option.some.inj h
            exact hCL1 _ rfl H locs ls hP hS (lv_sub hl [0, 1, 2, 3, 4, 5] rfl)
          · have h := d_f cq h
            refine lv_aload_n S.1 S.2.1 dX6_recountSteps_49 rfl (lv_at hl 1 rfl) ?_
            refine dgf6_3 S in6 hE hP k0 (S.2.2.2.2 (.fieldLink RX6 29 "DrillField$Recount" "found" "LDrillField$Fault;") (List.mem_of_getElem? (i := 1) rfl)) dX6_recountSteps_50 ?_
            refine lv_iload_n S.1 S.2.1 dX6_recountSteps_53 rfl (lv_at hl 2 rfl) ?_
            refine lv_iconst (v := 0) S.1 S.2.1 dX6_recountSteps_54 (by decide) ?_
            refine lv_iload S.1 S.2.1 dX6_recountSteps_55 (lv_at hl 0 rfl) ?_
            refine lv_iconst (v := (-1)) S.1 S.2.1 dX6_recountSteps_57 (by decide) ?_
            obtain ⟨m26, hc25, h⟩ := d_b h
            refine drv (va_runV (As := [.int p1, .int 0, .int v2, .int (-1)]) (rest := []) S (kX2_tell l g hc25) (cwV 4 S.2.2.2.2 gX6_recountSteps_X2_tell rfl rfl rfl ynX2_tell ⟨Nat.le_of_ble_eq_true rfl, Nat.le_of_ble_eq_true rfl⟩) (dpV hE hP hS (ci := 2) rfl (dat3 dk_390)) rfl rfl hl.1 rfl (lv_room (Nat.le_of_ble_eq_true rfl)) dX6_recountSteps_58 ⟨Nat.le_of_ble_eq_true rfl, Nat.le_of_ble_eq_true rfl⟩) hS (fun H locs hP hS => ?_)
            obtain ⟨v27, ev27⟩ : ∃ z : Int32, z = v2 + 1 := ⟨_, rfl⟩
            have h := d_let ev27 h
            refine lv_iinc (v := v27) (lv' := [(5, .int v27), (0, .ref (dad g p0)), (1, .int p1), (2, .int p2), (3, .ref (dad g p3)), (4, .int p4)]) S.1 S.2.1 dX6_recountSteps_61 hl (k := 0) rfl (by rw [ev27]; rfl) (by decide) rfl (fun ls hl => ?_)
            refine lv_goto (tgt := 3) S.1 S.2.1 dX6_recountSteps_64 (by decide) ?_
            obtain rfl := Option.some.inj h
            exact hCL1 _ rfl H locs ls hP hS (lv_sub hl [0, 1, 2, 3, 4, 5] rfl)
  · obtain ⟨m28, rfl⟩ : ∃ z, z = qL1 := ⟨_, rfl⟩
    have h := d_p1 h
    intro H locs ls hP hS hl
    have hP : va_P g.1 vwCl (dws g m28) H := hP
    have hl : lv_has ls 6 [] := hl
    obtain rfl := Option.some.inj h
    exact dtv S hr hlk hE hP hS dX6_recountSteps_67
set_option maxRecDepth 20000 in
theorem ggX6_recountNear_X2_isFound : GoodIn wsX6_recountNear wsX2_isFound := goodIn_r _ [7, 8, 31, 32, 33, 34] (by decide +kernel) (by decide +kernel)
set_option maxRecDepth 20000 in
theorem gX6_recountNear_X2_isFound : GoodIn wsX6_recountNear (wsV RX6 57 RX2 yX2_isFound wsX2_isFound) := goodIn_app (goodIn_of _ (by decide +kernel)) ggX6_recountNear_X2_isFound
set_option maxRecDepth 20000 in
theorem ggX6_recountNear_X1_marches : GoodIn wsX6_recountNear wsX1_marches := goodIn_r _ [13, 14, 15, 16, 17, 18, 19, 35, 36, 37, 38, 39] (by decide +kernel) (by decide +kernel)
set_option maxRecDepth 20000 in
theorem gX6_recountNear_X1_marches : GoodIn wsX6_recountNear (wsV RX6 87 RX1 yX1_marches wsX1_marches) := goodIn_app (goodIn_of _ (by decide +kernel)) ggX6_recountNear_X1_marches
set_option maxRecDepth 20000 in
theorem ggX6_recountNear_X2_tell : GoodIn wsX6_recountNear wsX2_tell := goodIn_r _ [23, 8, 24, 25, 26, 31, 32, 33, 34] (by decide +kernel) (by decide +kernel)
set_option maxRecDepth 20000 in
theorem gX6_recountNear_X2_tell : GoodIn wsX6_recountNear (wsV RX6 94 RX2 yX2_tell wsX2_tell) := goodIn_app (goodIn_of _ (by decide +kernel)) ggX6_recountNear_X2_tell
theorem dX6_recountNear_0 : decode cX6_recountNear 0 = .ok (.iconst 0, 1) := by decide +kernel
theorem dX6_recountNear_1 : decode cX6_recountNear 1 = .ok (.istore 4, 2) := by decide +kernel
theorem dX6_recountNear_3 : decode cX6_recountNear 3 = .ok (.iload 4, 2) := by decide +kernel
theorem dX6_recountNear_5 : decode cX6_recountNear 5 = .ok (.iload_n 3, 1) := by decide +kernel
theorem dX6_recountNear_6 : decode cX6_recountNear 6 = .ok (.if_icmp .ge 83, 3) := by decide +kernel
theorem dX6_recountNear_9 : decode cX6_recountNear 9 = .ok (.iload 4, 2) := by decide +kernel
theorem dX6_recountNear_11 : decode cX6_recountNear 11 = .ok (.iconst 1, 1) := by decide +kernel
theorem dX6_recountNear_12 : decode cX6_recountNear 12 = .ok (.iadd, 1) := by decide +kernel
theorem dX6_recountNear_13 : decode cX6_recountNear 13 = .ok (.istore 5, 2) := by decide +kernel
theorem dX6_recountNear_15 : decode cX6_recountNear 15 = .ok (.iload 5, 2) := by decide +kernel
theorem dX6_recountNear_17 : decode cX6_recountNear 17 = .ok (.iload_n 3, 1) := by decide +kernel
theorem dX6_recountNear_18 : decode cX6_recountNear 18 = .ok (.if_icmp .ge 65, 3) := by decide +kernel
theorem dX6_recountNear_21 : decode cX6_recountNear 21 = .ok (.aload_n 0, 1) := by decide +kernel
theorem dX6_recountNear_22 : decode cX6_recountNear 22 = .ok (.getfield 29, 3) := by decide +kernel
theorem dX6_recountNear_25 : decode cX6_recountNear 25 = .ok (.invokevirtual 57, 3) := by decide +kernel
theorem dX6_recountNear_28 : decode cX6_recountNear 28 = .ok (.ifCond .ne 55, 3) := by decide +kernel
theorem dX6_recountNear_31 : decode cX6_recountNear 31 = .ok (.aload_n 0, 1) := by decide +kernel
theorem dX6_recountNear_32 : decode cX6_recountNear 32 = .ok (.getfield 23, 3) := by decide +kernel
theorem dX6_recountNear_35 : decode cX6_recountNear 35 = .ok (.iload 4, 2) := by decide +kernel
theorem dX6_recountNear_37 : decode cX6_recountNear 37 = .ok (.aaload, 1) := by decide +kernel
theorem dX6_recountNear_38 : decode cX6_recountNear 38 = .ok (.iload 5, 2) := by decide +kernel
theorem dX6_recountNear_40 : decode cX6_recountNear 40 = .ok (.iaload, 1) := by decide +kernel
theorem dX6_recountNear_41 : decode cX6_recountNear 41 = .ok (.bipush 100, 2) := by decide +kernel
theorem dX6_recountNear_43 : decode cX6_recountNear 43 = .ok (.if_icmp .ge 34, 3) := by decide +kernel
theorem dX6_recountNear_46 : decode cX6_recountNear 46 = .ok (.aload_n 2, 1) := by decide +kernel
theorem dX6_recountNear_47 : decode cX6_recountNear 47 = .ok (.iload 4, 2) := by decide +kernel
theorem dX6_recountNear_49 : decode cX6_recountNear 49 = .ok (.invokevirtual 87, 3) := by decide +kernel
theorem dX6_recountNear_52 : decode cX6_recountNear 52 = .ok (.ifCond .eq 25, 3) := by decide +kernel
theorem dX6_recountNear_55 : decode cX6_recountNear 55 = .ok (.aload_n 2, 1) := by decide +kernel
theorem dX6_recountNear_56 : decode cX6_recountNear 56 = .ok (.iload 5, 2) := by decide +kernel
theorem dX6_recountNear_58 : decode cX6_recountNear 58 = .ok (.invokevirtual 87, 3) := by decide +kernel
theorem dX6_recountNear_61 : decode cX6_recountNear 61 = .ok (.ifCond .eq 16, 3) := by decide +kernel
theorem dX6_recountNear_64 : decode cX6_recountNear 64 = .ok (.aload_n 0, 1) := by decide +kernel
theorem dX6_recountNear_65 : decode cX6_recountNear 65 = .ok (.getfield 29, 3) := by decide +kernel
theorem dX6_recountNear_68 : decode cX6_recountNear 68 = .ok (.iload_n 1, 1) := by decide +kernel
theorem dX6_recountNear_69 : decode cX6_recountNear 69 = .ok (.iconst 1, 1) := by decide +kernel
theorem dX6_recountNear_70 : decode cX6_recountNear 70 = .ok (.iload 4, 2) := by decide +kernel
theorem dX6_recountNear_72 : decode cX6_recountNear 72 = .ok (.iload 5, 2) := by decide +kernel
theorem dX6_recountNear_74 : decode cX6_recountNear 74 = .ok (.invokevirtual 94, 3) := by decide +kernel
theorem dX6_recountNear_77 : decode cX6_recountNear 77 = .ok (.iinc 5 1, 3) := by decide +kernel
theorem dX6_recountNear_80 : decode cX6_recountNear 80 = .ok (.goto (-65), 3) := by decide +kernel
theorem dX6_recountNear_83 : decode cX6_recountNear 83 = .ok (.iinc 4 1, 3) := by decide +kernel
theorem dX6_recountNear_86 : decode cX6_recountNear 86 = .ok (.goto (-83), 3) := by decide +kernel
theorem dX6_recountNear_89 : decode cX6_recountNear 89 = .ok (.return_, 1) := by decide +kernel
def fX6_recountNear_l15 (p1 : Int32) (p2 : Nat) (p3 : Int32) (v2 : Int32) (v38 : Int32) (m39 : dM) : Option ((Int32 × dM) ⊕ dM) := if p3 ≤ v38 then some (.inr m39) else (fX2_isFound m39 390).bind (fun v54 => if v54 = 0 then dg (dIx v2 (dL 379)) (dg (dkg (379 + 1 + (Int32.toNatClampNeg (v2))) 20) (dg (dIx v38 (dL (379 + 1 + (Int32.toNatClampNeg (v2))))) (if 100 ≤ (m39.1 (379 + 1 + (Int32.toNatClampNeg (v2))) (Int32.toNatClampNeg (v38))) then dlet (v38 + 1 : Int32) (fun v56 => some (.inl (v56, m39))) else (fX1_marches m39 p2 v2).bind (fun v58 => if v58 = 0 then dlet (v38 + 1 : Int32) (fun v59 => some (.inl (v59, m39))) else (fX1_marches m39 p2 v38).bind (fun v61 => if v61 = 0 then dlet (v38 + 1 : Int32) (fun v62 => some (.inl (v62, m39))) else (fX2_tell m39 390 p1 1 v2 v38).bind (fun m64 => dlet (v38 + 1 : Int32) (fun v65 => some (.inl (v65, m64))))))))) else some (.inr m39))
def fX6_recountNear_l3 (p1 : Int32) (p2 : Nat) (p3 : Int32) (v2 : Int32) (m3 : dM) : Option ((Int32 × dM) ⊕ dM) := if p3 ≤ v2 then some (.inr m3) else dlet (v2 + 1 : Int32) (fun v36 => (dlp (fun q => dP2 q (fun v38 m39 => fX6_recountNear_l15 p1 p2 p3 v2 v38 m39)) dFl (v36, m3)).bind (fun q => dP1 q (fun m66 => dlet (v2 + 1 : Int32) (fun v67 => some (.inl (v67, m66))))))
def fX6_recountNear (m : dM) (p0 : Nat) (p1 : Int32) (p2 : Nat) (p3 : Int32) : Option dM := dg (dkg p0 7) (dg (dkg p2 2) ((dlp (fun q => dP2 q (fun v2 m3 => fX6_recountNear_l3 p1 p2 p3 v2 m3)) dFl (0, m)).bind (fun q => dP1 q (fun m68 => some m68))))
set_option maxHeartbeats 4000000 in
set_option maxRecDepth 100000 in
theorem kX6_recountNear (l : Launch) (g : dG) {m : dM} {p0 : Nat} {p1 : Int32} {p2 : Nat} {p3 : Int32} {m0 : dM} (h : fX6_recountNear m p0 p1 p2 p3 = some m0) : dMet l g yX6_recountNear wsX6_recountNear (dRm 2 42) [.ref (dad g p0), .int p1, .ref (dad g p2), .int p3] m (dQV g m0) := by
  refine dof (cc := cX6_recountNear) (maxL := 6) (ret := none) _ (plainFor_of_name (by decide)) rfl (Nat.le_of_ble_eq_true rfl) ?_
  intro p e s mth below meth c S hr hlk hE H ls hP hS hl
  have S : CallFix p mth c cX6_recountNear 6 s _ wsX6_recountNear RX6 := S
  have hl : lv_has ls 6 [(0, .ref (dad g p0)), (1, .int p1), (2, .ref (dad g p2)), (3, .int p3)] := hl
  obtain ⟨locs, hlocs⟩ : ∃ z : List Loc, z = [] := ⟨_, rfl⟩
  rw [← hlocs] at hS ⊢
  have in6 : ∀ w ∈ wsX60, w ∈ wsX6_recountNear := by decide +kernel
  unfold fX6_recountNear at h
  obtain ⟨k0, h⟩ := d_g h
  have k0 := d_k k0
  obtain ⟨k2, h⟩ := d_g h
  have k2 := d_k k2
  refine lv_iconst (v := 0) S.1 S.2.1 dX6_recountNear_0 (by decide) ?_
  refine lv_istore (lv' := [(4, .int 0), (0, .ref (dad g p0)), (1, .int p1), (2, .ref (dad g p2)), (3, .int p3)]) S.1 S.2.1 dX6_recountNear_1 hl (by decide) rfl (fun ls hl => ?_)
  obtain ⟨qL1, hqL1, h⟩ := d_b h
  refine d_lp (Hd := fun q => match q with | (v2, m3) => ∀ (H : Heap) (locs : List Loc) (ls : Array Slot), va_P g.1 vwCl (dws g m3) H → va_S (dA g) s.heap H locs → lv_has ls 6 [(4, .int v2), (0, .ref (dad g p0)), (1, .int p1), (2, .ref (dad g p2)), (3, .int p3)] → W p l e (headSpec wsX6_recountNear (dRm 2 42)).room s mth (([.ref (dad g p0), .int p1, .ref (dad g p2), .int p3] : List Value).toArray) below meth c H locs 0 0 (MQ below (dQV g m0) (([.ref (dad g p0), .int p1, .ref (dad g p2), .int p3] : List Value).toArray) s 0 0 (dA g)) (F0 mth 3 ls [])) (K := fun q => (fun (m68 : _) => ∀ (H : Heap) (locs : List Loc) (ls : Array Slot), va_P g.1 vwCl (dws g m68) H → va_S (dA g) s.heap H locs → lv_has ls 6 [] → W p l e (headSpec wsX6_recountNear (dRm 2 42)).room s mth (([.ref (dad g p0), .int p1, .ref (dad g p2), .int p3] : List Value).toArray) below meth c H locs 0 0 (MQ below (dQV g m0) (([.ref (dad g p0), .int p1, .ref (dad g p2), .int p3] : List Value).toArray) s 0 0 (dA g)) (F0 mth 89 ls [])) q) ?_ dFl _ qL1 hqL1 ?_ H locs ls hP hS (lv_sub hl [0, 1, 2, 3, 4] rfl)
  · intro q o h hCL1 hEL1
    obtain ⟨v2, m3⟩ := q
    have h : fX6_recountNear_l3 p1 p2 p3 v2 m3 = some o := h
    intro H locs ls hP hS hl
    have hP : va_P g.1 vwCl (dws g m3) H := hP
    have hl : lv_has ls 6 [(4, .int v2), (0, .ref (dad g p0)), (1, .int p1), (2, .ref (dad g p2)), (3, .int p3)] := hl
    unfold fX6_recountNear_l3 at h
    refine lv_iload S.1 S.2.1 dX6_recountNear_3 (lv_at hl 0 rfl) ?_
    refine lv_iload_n S.1 S.2.1 dX6_recountNear_5 rfl (lv_at hl 4 rfl) ?_
    refine lv_icmp_ge (tgt := 89) S.1 S.2.1 dX6_recountNear_6 (by decide) (fun cq => ?_) (fun cq => ?_)
    · have h := d_t cq h
      obtain rfl := Option.some.inj h
      exact hEL1 _ rfl H locs ls hP hS (lv_sub hl [] rfl)
    · have h := d_f cq h
      refine lv_iload S.1 S.2.1 dX6_recountNear_9 (lv_at hl 0 rfl) ?_
      refine lv_iconst (v := 1) S.1 S.2.1 dX6_recountNear_11 (by decide) ?_
      refine lv_iadd S.1 S.2.1 dX6_recountNear_12 ?_
      refine lv_topi (fun v36 ev36 => ?_)
      have h := d_let ev36 h
      refine lv_istore (lv' := [(5, .int v36), (4, .int v2), (0, .ref (dad g p0)), (1, .int p1), (2, .ref (dad g p2)), (3, .int p3)]) S.1 S.2.1 dX6_recountNear_13 hl (by decide) rfl (fun ls hl => ?_)
      obtain ⟨qL37, hqL37, h⟩ := d_b h
      refine d_lp (Hd := fun q => match q with | (v38, m39) => ∀ (H : Heap) (locs : List Loc) (ls : Array Slot), va_P g.1 vwCl (dws g m39) H → va_S (dA g) s.heap H locs → lv_has ls 6 [(5, .int v38), (4, .int v2), (0, .ref (dad g p0)), (1, .int p1), (2, .ref (dad g p2)), (3, .int p3)] → W p l e (headSpec wsX6_recountNear (dRm 2 42)).room s mth (([.ref (dad g p0), .int p1, .ref (dad g p2), .int p3] : List Value).toArray) below meth c H locs 0 0 (MQ below (dQV g m0) (([.ref (dad g p0), .int p1, .ref (dad g p2), .int p3] : List Value).toArray) s 0 0 (dA g)) (F0 mth 15 ls [])) (K := fun q => (fun (m66 : _) => ∀ (H : Heap) (locs : List Loc) (ls : Array Slot), va_P g.1 vwCl (dws g m66) H → va_S (dA g) s.heap H locs → lv_has ls 6 [(0, .ref (dad g p0)), (1, .int p1), (2, .ref (dad g p2)), (3, .int p3), (4, .int v2)] → W p l e (headSpec wsX6_recountNear (dRm 2 42)).room s mth (([.ref (dad g p0), .int p1, .ref (dad g p2), .int p3] : List Value).toArray) below meth c H locs 0 0 (MQ below (dQV g m0) (([.ref (dad g p0), .int p1, .ref (dad g p2), .int p3] : List Value).toArray) s 0 0 (dA g)) (F0 mth 83 ls [])) q) ?_ dFl _ qL37 hqL37 ?_ H locs ls hP hS (lv_sub hl [0, 1, 2, 3, 4, 5] rfl)
      · intro q o h hCL37 hEL37
        obtain ⟨v38, m39⟩ := q
        have h : fX6_recountNear_l15 p1 p2 p3 v2 v38 m39 = some o := h
        intro H locs ls hP hS hl
        have hP : va_P g.1 vwCl (dws g m39) H := hP
        have hl : lv_has ls 6 [(5, .int v38), (4, .int v2), (0, .ref (dad g p0)), (1, .int p1), (2, .ref (dad g p2)), (3, .int p3)] := hl
        unfold fX6_recountNear_l15 at h
        refine lv_iload S.1 S.2.1 dX6_recountNear_15 (lv_at hl 0 rfl) ?_
        refine lv_iload_n S.1 S.2.1 dX6_recountNear_17 rfl (lv_at hl 5 rfl) ?_
        refine lv_icmp_ge (tgt := 83) S.1 S.2.1 dX6_recountNear_18 (by decide) (fun cq => ?_) (fun cq => ?_)
        · have h := d_t cq h
          obtain rfl := Option.some.inj h
          exact hEL37 _ rfl H locs ls hP hS (lv_sub hl [2, 3, 4, 5, 1] rfl)
        · have h := d_f cq h
          refine lv_aload_n S.1 S.2.1 dX6_recountNear_21 rfl (lv_at hl 2 rfl) ?_
          refine dgf6_3 S in6 hE hP k0 (S.2.2.2.2 (.fieldLink RX6 29 "DrillField$Recount" "found" "LDrillField$Fault;") (List.mem_of_getElem? (i := 1) rfl)) dX6_recountNear_22 ?_
          obtain ⟨v54, hc53, h⟩ := d_b h
          refine dri (va_runV (As := []) (rest := []) S (kX2_isFound l g hc53) (cwV 0 S.2.2.2.2 gX6_recountNear_X2_isFound rfl rfl rfl ynX2_isFound ⟨Nat.le_of_ble_eq_true rfl, Nat.le_of_ble_eq_true rfl⟩) (dpV hE hP hS (ci := 2) rfl (dat3 dk_390)) rfl rfl hl.1 rfl (lv_room (Nat.le_of_ble_eq_true rfl)) dX6_recountNear_25 ⟨Nat.le_of_ble_eq_true rfl, Nat.le_of_ble_eq_true rfl⟩) hS (fun H locs hP hS => ?_)
          refine lv_if_ne (tgt := 83) S.1 S.2.1 dX6_recountNear_28 (by decide) (fun cq => ?_) (fun cq => ?_)
          · have h := d_f cq h
            obtain rfl := Option.some.inj h
            exact hEL37 _ rfl H locs ls hP hS (lv_sub hl [2, 3, 4, 5, 1] rfl)
          · have h := d_t cq h
            refine lv_aload_n S.1 S.2.1 dX6_recountNear_31 rfl (lv_at hl 2 rfl) ?_
            refine dgf6_2 S in6 hE hP k0 (S.2.2.2.2 (.fieldLink RX6 23 "DrillField$Recount" "squares" "[[I") (List.mem_of_getElem? (i := 2) rfl)) dX6_recountNear_32 ?_
            refine lv_iload S.1 S.2.1 dX6_recountNear_35 (lv_at hl 1 rfl) ?_
            obtain ⟨hi, h⟩ := d_g h
            obtain ⟨hk55, h⟩ := d_g h
            have hk55 := d_k hk55
            refine d_aald (r := dad g (379 + 1 + (Int32.toNatClampNeg (v2)))) (ty := .array .int) 5 S hE hP (dat25 dk_379) rfl rfl hi (if_pos (dIx_lt hi)) dX6_recountNear_37 ?_
            refine lv_iload S.1 S.2.1 dX6_recountNear_38 (lv_at hl 0 rfl) ?_
            obtain ⟨hi, h⟩ := d_g h
            refine d_iald S hE hP hk55 hi dX6_recountNear_40 ?_
            refine lv_bipush (v := 100) S.1 S.2.1 dX6_recountNear_41 (by decide) ?_
            refine lv_icmp_ge (tgt := 77) S.1 S.2.1 dX6_recountNear_43 (by decide) (fun cq => ?_) (fun cq => ?_)
            · have h := d_t cq h
              obtain ⟨v56, ev56⟩ : ∃ z : Int32, z = v38 + 1 := ⟨_, rfl⟩
              have h := d_let ev56 h
              refine lv_iinc (v := v56) (lv' := [(5, .int v56), (4, .int v2), (0, .ref (dad g p0)), (1, .int p1), (2, .ref (dad g p2)), (3, .int p3)]) S.1 S.2.1 dX6_recountNear_77 hl (k := 0) rfl (by rw [ev56]; rfl) (by decide) rfl (fun ls hl => ?_)
              refine lv_goto (tgt := 15) S.1 S.2.1 dX6_recountNear_80 (by decide) ?_
              obtain rfl := Option.some.inj h
              exact hCL37 _ rfl H locs ls hP hS (lv_sub hl [0, 1, 2, 3, 4, 5] rfl)
            · have h := d_f cq h
              refine lv_aload_n S.1 S.2.1 dX6_recountNear_46 rfl (lv_at hl 4 rfl) ?_
              refine lv_iload S.1 S.2.1 dX6_recountNear_47 (lv_at hl 1 rfl) ?_
              obtain ⟨v58, hc57, h⟩ := d_b h
              refine dri (va_runV (As := [.int v2]) (rest := []) S (kX1_marches l g hc57) (cwV 1 S.2.2.2.2 gX6_recountNear_X1_marches rfl rfl rfl ynX1_marches ⟨Nat.le_of_ble_eq_true rfl, Nat.le_of_ble_eq_true rfl⟩) (dpV hE hP hS (ci := 1) rfl (dat2 k2)) rfl rfl hl.1 rfl (lv_room (Nat.le_of_ble_eq_true rfl)) dX6_recountNear_49 ⟨Nat.le_of_ble_eq_true rfl, Nat.le_of_ble_eq_true rfl⟩) hS (fun H locs hP hS => ?_)
              refine lv_if_eq (tgt := 77) S.1 S.2.1 dX6_recountNear_52 (by decide) (fun cq => ?_) (fun cq => ?_)
              · have h := d_t cq h
                obtain ⟨v59, ev59⟩ : ∃ z : Int32, z = v38 + 1 := ⟨_, rfl⟩
                have h := d_let ev59 h
                refine lv_iinc (v := v59) (lv' := [(5, .int v59), (4, .int v2), (0, .ref (dad g p0)), (1, .int p1), (2, .ref (dad g p2)), (3, .int p3)]) S.1 S.2.1 dX6_recountNear_77 hl (k := 0) rfl (by rw [ev59]; rfl) (by decide) rfl (fun ls hl => ?_)
                refine lv_goto (tgt := 15) S.1 S.2.1 dX6_recountNear_80 (by decide) ?_
                obtain rfl := Option.some.inj h
                exact hCL37 _ rfl H locs ls hP hS (lv_sub hl [0, 1, 2, 3, 4, 5] rfl)
              · have h := d_f cq h
                refine lv_aload_n S.1 S.2.1 dX6_recountNear_55 rfl (lv_at hl 4 rfl) ?_
                refine lv_iload S.1 S.2.1 dX6_recountNear_56 (lv_at hl 0 rfl) ?_
                obtain ⟨v61, hc60, h⟩ := d_b h
                refine dri (va_runV (As := [.int v38]) (rest := []) S (kX1_marches l g hc60) (cwV 1 S.2.2.2.2 gX6_recountNear_X1_marches rfl rfl rfl ynX1_marches ⟨Nat.le_of_ble_eq_true rfl, Nat.le_of_ble_eq_true rfl⟩) (dpV hE hP hS (ci := 1) rfl (dat2 k2)) rfl rfl hl.1 rfl (lv_room (Nat.le_of_ble_eq_true rfl)) dX6_recountNear_58 ⟨Nat.le_of_ble_eq_true rfl, Nat.le_of_ble_eq_true rfl⟩) hS (fun H locs hP hS => ?_)
                refine lv_if_eq (tgt := 77) S.1 S.2.1 dX6_recountNear_61 (by decide) (fun cq => ?_) (fun cq => ?_)
                · have h := d_t cq h
                  obtain ⟨v62, ev62⟩ : ∃ z : Int32, z = v38 + 1 := ⟨_, rfl⟩
                  have h := d_let ev62 h
                  refine lv_iinc (v := v62) (lv' := [(5, .int v62), (4, .int v2), (0, .ref (dad g p0)), (1, .int p1), (2, .ref (dad g p2)), (3, .int p3)]) S.1 S.2.1 dX6_recountNear_77 hl (k := 0) rfl (by rw [ev62]; rfl) (by decide) rfl (fun ls hl => ?_)
                  refine lv_goto (tgt := 15) S.1 S.2.1 dX6_recountNear_80 (by decide) ?_
                  obtain rfl := Option.some.inj h
                  exact hCL37 _ rfl H locs ls hP hS (lv_sub hl [0, 1, 2, 3, 4, 5] rfl)
                · have h := d_f cq h
                  refine lv_aload_n S.1 S.2.1 dX6_recountNear_64 rfl (lv_at hl 2 rfl) ?_
                  refine dgf6_3 S in6 hE hP k0 (S.2.2.2.2 (.fieldLink RX6 29 "DrillField$Recount" "found" "LDrillField$Fault;") (List.mem_of_getElem? (i := 1) rfl)) dX6_recountNear_65 ?_
                  refine lv_iload_n S.1 S.2.1 dX6_recountNear_68 rfl (lv_at hl 3 rfl) ?_
                  refine lv_iconst (v := 1) S.1 S.2.1 dX6_recountNear_69 (by decide) ?_
                  refine lv_iload S.1 S.2.1 dX6_recountNear_70 (lv_at hl 1 rfl) ?_
                  refine lv_iload S.1 S.2.1 dX6_recountNear_72 (lv_at hl 0 rfl) ?_
                  obtain ⟨m64, hc63, h⟩ := d_b h
                  refine drv (va_runV (As := [.int p1, .int 1, .int v2, .int v38]) (rest := []) S (kX2_tell l g hc63) (cwV 4 S.2.2.2.2 gX6_recountNear_X2_tell rfl rfl rfl ynX2_tell ⟨Nat.le_of_ble_eq_true rfl, Nat.le_of_ble_eq_true rfl⟩) (dpV hE hP hS (ci := 2) rfl (dat3 dk_390)) rfl rfl hl.1 rfl (lv_room (Nat.le_of_ble_eq_true rfl)) dX6_recountNear_74 ⟨Nat.le_of_ble_eq_true rfl, Nat.le_of_ble_eq_true rfl⟩) hS (fun H locs hP hS => ?_)
                  obtain ⟨v65, ev65⟩ : ∃ z : Int32, z = v38 + 1 := ⟨_, rfl⟩
                  have h := d_let ev65 h
                  refine lv_iinc (v := v65) (lv' := [(5, .int v65), (4, .int v2), (0, .ref (dad g p0)), (1, .int p1), (2, .ref (dad g p2)), (3, .int p3)]) S.1 S.2.1 dX6_recountNear_77 hl (k := 0) rfl (by rw [ev65]; rfl) (by decide) rfl (fun ls hl => ?_)
                  refine lv_goto (tgt := 15) S.1 S.2.1 dX6_recountNear_80 (by decide) ?_
                  obtain rfl := Option.some.inj h
                  exact hCL37 _ rfl H locs ls hP hS (lv_sub hl [0, 1, 2, 3, 4, 5] rfl)
      · obtain ⟨m66, rfl⟩ : ∃ z, z = qL37 := ⟨_, rfl⟩
        have h := d_p1 h
        intro H locs ls hP hS hl
        have hP : va_P g.1 vwCl (dws g m66) H := hP
        have hl : lv_has ls 6 [(0, .ref (dad g p0)), (1, .int p1), (2, .ref (dad g p2)), (3, .int p3), (4, .int v2)] := hl
        obtain ⟨v67, ev67⟩ : ∃ z : Int32, z = v2 + 1 := ⟨_, rfl⟩
        have h := d_let ev67 h
        refine lv_iinc (v := v67) (lv' := [(4, .int v67), (0, .ref (dad g p0)), (1, .int p1), (2, .ref (dad g p2)), (3, .int p3)]) S.1 S.2.1 dX6_recountNear_83 hl (k := 4) rfl (by rw [ev67]; rfl) (by decide) rfl (fun ls hl => ?_)
        refine lv_goto (tgt := 3) S.1 S.2.1 dX6_recountNear_86 (by decide) ?_
        obtain rfl := Option.some.inj h
        exact hCL1 _ rfl H locs ls hP hS (lv_sub hl [0, 1, 2, 3, 4] rfl)
  · obtain ⟨m68, rfl⟩ : ∃ z, z = qL1 := ⟨_, rfl⟩
    have h := d_p1 h
    intro H locs ls hP hS hl
    have hP : va_P g.1 vwCl (dws g m68) H := hP
    have hl : lv_has ls 6 [] := hl
    obtain rfl := Option.some.inj h
    exact dtv S hr hlk hE hP hS dX6_recountNear_89
set_option maxRecDepth 20000 in
theorem ggX6_recountCrossings_X2_isFound : GoodIn wsX6_recountCrossings wsX2_isFound := goodIn_r _ [8, 9, 43, 44, 45, 46] (by decide +kernel) (by decide +kernel)
set_option maxRecDepth 20000 in
theorem gX6_recountCrossings_X2_isFound : GoodIn wsX6_recountCrossings (wsV RX6 57 RX2 yX2_isFound wsX2_isFound) := goodIn_app (goodIn_of _ (by decide +kernel)) ggX6_recountCrossings_X2_isFound
set_option maxRecDepth 20000 in
theorem ggX6_recountCrossings_X9_isCrossing : GoodIn wsX6_recountCrossings wsX9_isCrossing := goodIn_r _ [14, 15, 16, 17, 13, 18, 19, 20, 21, 22, 23, 47, 48] (by decide +kernel) (by decide +kernel)
set_option maxRecDepth 20000 in
theorem gX6_recountCrossings_X9_isCrossing : GoodIn wsX6_recountCrossings (wsV RX6 98 RX9 yX9_isCrossing wsX9_isCrossing) := goodIn_app (goodIn_of _ (by decide +kernel)) ggX6_recountCrossings_X9_isCrossing
set_option maxRecDepth 20000 in
theorem ggX6_recountCrossings_X1_marches : GoodIn wsX6_recountCrossings wsX1_marches := goodIn_r _ [28, 29, 30, 31, 21, 22, 23, 49, 50, 51, 52, 53] (by decide +kernel) (by decide +kernel)
set_option maxRecDepth 20000 in
theorem gX6_recountCrossings_X1_marches : GoodIn wsX6_recountCrossings (wsV RX6 87 RX1 yX1_marches wsX1_marches) := goodIn_app (goodIn_of _ (by decide +kernel)) ggX6_recountCrossings_X1_marches
set_option maxRecDepth 20000 in
theorem ggX6_recountCrossings_X2_tell : GoodIn wsX6_recountCrossings wsX2_tell := goodIn_r _ [35, 9, 36, 37, 38, 43, 44, 45, 46] (by decide +kernel) (by decide +kernel)
set_option maxRecDepth 20000 in
theorem gX6_recountCrossings_X2_tell : GoodIn wsX6_recountCrossings (wsV RX6 94 RX2 yX2_tell wsX2_tell) := goodIn_app (goodIn_of _ (by decide +kernel)) ggX6_recountCrossings_X2_tell
theorem dX6_recountCrossings_0 : decode cX6_recountCrossings 0 = .ok (.iconst 0, 1) := by decide +kernel
theorem dX6_recountCrossings_1 : decode cX6_recountCrossings 1 = .ok (.istore 4, 2) := by decide +kernel
theorem dX6_recountCrossings_3 : decode cX6_recountCrossings 3 = .ok (.iload 4, 2) := by decide +kernel
theorem dX6_recountCrossings_5 : decode cX6_recountCrossings 5 = .ok (.iload_n 3, 1) := by decide +kernel
theorem dX6_recountCrossings_6 : decode cX6_recountCrossings 6 = .ok (.if_icmp .ge 86, 3) := by decide +kernel
theorem dX6_recountCrossings_9 : decode cX6_recountCrossings 9 = .ok (.iload 4, 2) := by decide +kernel
theorem dX6_recountCrossings_11 : decode cX6_recountCrossings 11 = .ok (.iconst 1, 1) := by decide +kernel
theorem dX6_recountCrossings_12 : decode cX6_recountCrossings 12 = .ok (.iadd, 1) := by decide +kernel
theorem dX6_recountCrossings_13 : decode cX6_recountCrossings 13 = .ok (.istore 5, 2) := by decide +kernel
theorem dX6_recountCrossings_15 : decode cX6_recountCrossings 15 = .ok (.iload 5, 2) := by decide +kernel
theorem dX6_recountCrossings_17 : decode cX6_recountCrossings 17 = .ok (.iload_n 3, 1) := by decide +kernel
theorem dX6_recountCrossings_18 : decode cX6_recountCrossings 18 = .ok (.if_icmp .ge 68, 3) := by decide +kernel
theorem dX6_recountCrossings_21 : decode cX6_recountCrossings 21 = .ok (.aload_n 0, 1) := by decide +kernel
theorem dX6_recountCrossings_22 : decode cX6_recountCrossings 22 = .ok (.getfield 29, 3) := by decide +kernel
theorem dX6_recountCrossings_25 : decode cX6_recountCrossings 25 = .ok (.invokevirtual 57, 3) := by decide +kernel
theorem dX6_recountCrossings_28 : decode cX6_recountCrossings 28 = .ok (.ifCond .ne 58, 3) := by decide +kernel
theorem dX6_recountCrossings_31 : decode cX6_recountCrossings 31 = .ok (.aload_n 0, 1) := by decide +kernel
theorem dX6_recountCrossings_32 : decode cX6_recountCrossings 32 = .ok (.getfield 12, 3) := by decide +kernel
theorem dX6_recountCrossings_35 : decode cX6_recountCrossings 35 = .ok (.aload_n 0, 1) := by decide +kernel
theorem dX6_recountCrossings_36 : decode cX6_recountCrossings 36 = .ok (.getfield 18, 3) := by decide +kernel
theorem dX6_recountCrossings_39 : decode cX6_recountCrossings 39 = .ok (.iload 4, 2) := by decide +kernel
theorem dX6_recountCrossings_41 : decode cX6_recountCrossings 41 = .ok (.iload 5, 2) := by decide +kernel
theorem dX6_recountCrossings_43 : decode cX6_recountCrossings 43 = .ok (.invokevirtual 98, 3) := by decide +kernel
theorem dX6_recountCrossings_46 : decode cX6_recountCrossings 46 = .ok (.ifCond .eq 34, 3) := by decide +kernel
theorem dX6_recountCrossings_49 : decode cX6_recountCrossings 49 = .ok (.aload_n 2, 1) := by decide +kernel
theorem dX6_recountCrossings_50 : decode cX6_recountCrossings 50 = .ok (.iload 4, 2) := by decide +kernel
theorem dX6_recountCrossings_52 : decode cX6_recountCrossings 52 = .ok (.invokevirtual 87, 3) := by decide +kernel
theorem dX6_recountCrossings_55 : decode cX6_recountCrossings 55 = .ok (.ifCond .eq 25, 3) := by decide +kernel
theorem dX6_recountCrossings_58 : decode cX6_recountCrossings 58 = .ok (.aload_n 2, 1) := by decide +kernel
theorem dX6_recountCrossings_59 : decode cX6_recountCrossings 59 = .ok (.iload 5, 2) := by decide +kernel
theorem dX6_recountCrossings_61 : decode cX6_recountCrossings 61 = .ok (.invokevirtual 87, 3) := by decide +kernel
theorem dX6_recountCrossings_64 : decode cX6_recountCrossings 64 = .ok (.ifCond .eq 16, 3) := by decide +kernel
theorem dX6_recountCrossings_67 : decode cX6_recountCrossings 67 = .ok (.aload_n 0, 1) := by decide +kernel
theorem dX6_recountCrossings_68 : decode cX6_recountCrossings 68 = .ok (.getfield 29, 3) := by decide +kernel
theorem dX6_recountCrossings_71 : decode cX6_recountCrossings 71 = .ok (.iload_n 1, 1) := by decide +kernel
theorem dX6_recountCrossings_72 : decode cX6_recountCrossings 72 = .ok (.iconst 2, 1) := by decide +kernel
theorem dX6_recountCrossings_73 : decode cX6_recountCrossings 73 = .ok (.iload 4, 2) := by decide +kernel
theorem dX6_recountCrossings_75 : decode cX6_recountCrossings 75 = .ok (.iload 5, 2) := by decide +kernel
theorem dX6_recountCrossings_77 : decode cX6_recountCrossings 77 = .ok (.invokevirtual 94, 3) := by decide +kernel
theorem dX6_recountCrossings_80 : decode cX6_recountCrossings 80 = .ok (.iinc 5 1, 3) := by decide +kernel
theorem dX6_recountCrossings_83 : decode cX6_recountCrossings 83 = .ok (.goto (-68), 3) := by decide +kernel
theorem dX6_recountCrossings_86 : decode cX6_recountCrossings 86 = .ok (.iinc 4 1, 3) := by decide +kernel
theorem dX6_recountCrossings_89 : decode cX6_recountCrossings 89 = .ok (.goto (-86), 3) := by decide +kernel
theorem dX6_recountCrossings_92 : decode cX6_recountCrossings 92 = .ok (.return_, 1) := by decide +kernel
def fX6_recountCrossings_l15 (p1 : Int32) (p2 : Nat) (p3 : Int32) (v2 : Int32) (v40 : Int32) (m41 : dM) : Option ((Int32 × dM) ⊕ dM) := if p3 ≤ v40 then some (.inr m41) else (fX2_isFound m41 390).bind (fun v57 => if v57 = 0 then (fX9_isCrossing m41 373 376 v2 v40).bind (fun v59 => if v59 = 0 then dlet (v40 + 1 : Int32) (fun v60 => some (.inl (v60, m41))) else (fX1_marches m41 p2 v2).bind (fun v62 => if v62 = 0 then dlet (v40 + 1 : Int32) (fun v63 => some (.inl (v63, m41))) else (fX1_marches m41 p2 v40).bind (fun v65 => if v65 = 0 then dlet (v40 + 1 : Int32) (fun v66 => some (.inl (v66, m41))) else (fX2_tell m41 390 p1 2 v2 v40).bind (fun m68 => dlet (v40 + 1 : Int32) (fun v69 => some (.inl (v69, m68))))))) else some (.inr m41))
def fX6_recountCrossings_l3 (p1 : Int32) (p2 : Nat) (p3 : Int32) (v2 : Int32) (m3 : dM) : Option ((Int32 × dM) ⊕ dM) := if p3 ≤ v2 then some (.inr m3) else dlet (v2 + 1 : Int32) (fun v38 => (dlp (fun q => dP2 q (fun v40 m41 => fX6_recountCrossings_l15 p1 p2 p3 v2 v40 m41)) dFl (v38, m3)).bind (fun q => dP1 q (fun m70 => dlet (v2 + 1 : Int32) (fun v71 => some (.inl (v71, m70))))))
def fX6_recountCrossings (m : dM) (p0 : Nat) (p1 : Int32) (p2 : Nat) (p3 : Int32) : Option dM := dg (dkg p0 7) (dg (dkg p2 2) ((dlp (fun q => dP2 q (fun v2 m3 => fX6_recountCrossings_l3 p1 p2 p3 v2 m3)) dFl (0, m)).bind (fun q => dP1 q (fun m72 => some m72))))
set_option maxHeartbeats 4000000 in
set_option maxRecDepth 100000 in
theorem kX6_recountCrossings (l : Launch) (g : dG) {m : dM} {p0 : Nat} {p1 : Int32} {p2 : Nat} {p3 : Int32} {m0 : dM} (h : fX6_recountCrossings m p0 p1 p2 p3 = some m0) : dMet l g yX6_recountCrossings wsX6_recountCrossings (dRm 3 72) [.ref (dad g p0), .int p1, .ref (dad g p2), .int p3] m (dQV g m0) := by
  refine dof (cc := cX6_recountCrossings) (maxL := 6) (ret := none) _ (plainFor_of_name (by decide)) rfl (Nat.le_of_ble_eq_true rfl) ?_
  intro p e s mth below meth c S hr hlk hE H ls hP hS hl
  have S : CallFix p mth c cX6_recountCrossings 6 s _ wsX6_recountCrossings RX6 := S
  have hl : lv_has ls 6 [(0, .ref (dad g p0)), (1, .int p1), (2, .ref (dad g p2)), (3, .int p3)] := hl
  obtain ⟨locs, hlocs⟩ : ∃ z : List Loc, z = [] := ⟨_, rfl⟩
  rw [← hlocs] at hS ⊢
  have in6 : ∀ w ∈ wsX60, w ∈ wsX6_recountCrossings := by decide +kernel
  unfold fX6_recountCrossings at h
  obtain ⟨k0, h⟩ := d_g h
  have k0 := d_k k0
  obtain ⟨k2, h⟩ := d_g h
  have k2 := d_k k2
  refine lv_iconst (v := 0) S.1 S.2.1 dX6_recountCrossings_0 (by decide) ?_
  refine lv_istore (lv' := [(4, .int 0), (0, .ref (dad g p0)), (1, .int p1), (2, .ref (dad g p2)), (3, .int p3)]) S.1 S.2.1 dX6_recountCrossings_1 hl (by decide) rfl (fun ls hl => ?_)
  obtain ⟨qL1, hqL1, h⟩ := d_b h
  refine d_lp (Hd := fun q => match q with | (v2, m3) => ∀ (H : Heap) (locs : List Loc) (ls : Array Slot), va_P g.1 vwCl (dws g m3) H → va_S (dA g) s.heap H locs → lv_has ls 6 [(4, .int v2), (0, .ref (dad g p0)), (1, .int p1), (2, .ref (dad g p2)), (3, .int p3)] → W p l e (headSpec wsX6_recountCrossings (dRm 3 72)).room s mth (([.ref (dad g p0), .int p1, .ref (dad g p2), .int p3] : List Value).toArray) below meth c H locs 0 0 (MQ below (dQV g m0) (([.ref (dad g p0), .int p1, .ref (dad g p2), .int p3] : List Value).toArray) s 0 0 (dA g)) (F0 mth 3 ls [])) (K := fun q => (fun (m72 : _) => ∀ (H : Heap) (locs : List Loc) (ls : Array Slot), va_P g.1 vwCl (dws g m72) H → va_S (dA g) s.heap H locs → lv_has ls 6 [] → W p l e (headSpec wsX6_recountCrossings (dRm 3 72)).room s mth (([.ref (dad g p0), .int p1, .ref (dad g p2), .int p3] : List Value).toArray) below meth c H locs 0 0 (MQ below (dQV g m0) (([.ref (dad g p0), .int p1, .ref (dad g p2), .int p3] : List Value).toArray) s 0 0 (dA g)) (F0 mth 92 ls [])) q) ?_ dFl _ qL1 hqL1 ?_ H locs ls hP hS (lv_sub hl [0, 1, 2, 3, 4] rfl)
  · intro q o h hCL1 hEL1
    obtain ⟨v2, m3⟩ := q
    have h : fX6_recountCrossings_l3 p1 p2 p3 v2 m3 = some o := h
    intro H locs ls hP hS hl
    have hP : va_P g.1 vwCl (dws g m3) H := hP
    have hl : lv_has ls 6 [(4, .int v2), (0, .ref (dad g p0)), (1, .int p1), (2, .ref (dad g p2)), (3, .int p3)] := hl
    unfold fX6_recountCrossings_l3 at h
    refine lv_iload S.1 S.2.1 dX6_recountCrossings_3 (lv_at hl 0 rfl) ?_
    refine lv_iload_n S.1 S.2.1 dX6_recountCrossings_5 rfl (lv_at hl 4 rfl) ?_
    refine lv_icmp_ge (tgt := 92) S.1 S.2.1 dX6_recountCrossings_6 (by decide) (fun cq => ?_) (fun cq => ?_)
    · have h := d_t cq h
      obtain rfl := Option.some.inj h
      exact hEL1 _ rfl H locs ls hP hS (lv_sub hl [] rfl)
    · have h := d_f cq h
      refine lv_iload S.1 S.2.1 dX6_recountCrossings_9 (lv_at hl 0 rfl) ?_
      refine lv_iconst (v := 1) S.1 S.2.1 dX6_recountCrossings_11 (by decide) ?_
      refine lv_iadd S.1 S.2.1 dX6_recountCrossings_12 ?_
      refine lv_topi (fun v38 ev38 => ?_)
      have h := d_let ev38 h
      refine lv_istore (lv' := [(5, .int v38), (4, .int v2), (0, .ref (dad g p0)), (1, .int p1), (2, .ref (dad g p2)), (3, .int p3)]) S.1 S.2.1 dX6_recountCrossings_13 hl (by decide) rfl (fun ls hl => ?_)
      obtain ⟨qL39, hqL39, h⟩ := d_b h
      refine d_lp (Hd := fun q => match q with | (v40, m41) => ∀ (H : Heap) (locs : List Loc) (ls : Array Slot), va_P g.1 vwCl (dws g m41) H → va_S (dA g) s.heap H locs → lv_has ls 6 [(5, .int v40), (4, .int v2), (0, .ref (dad g p0)), (1, .int p1), (2, .ref (dad g p2)), (3, .int p3)] → W p l e (headSpec wsX6_recountCrossings (dRm 3 72)).room s mth (([.ref (dad g p0), .int p1, .ref (dad g p2), .int p3] : List Value).toArray) below meth c H locs 0 0 (MQ below (dQV g m0) (([.ref (dad g p0), .int p1, .ref (dad g p2), .int p3] : List Value).toArray) s 0 0 (dA g)) (F0 mth 15 ls [])) (K := fun q => (fun (m70 : _) => ∀ (H : Heap) (locs : List Loc) (ls : Array Slot), va_P g.1 vwCl (dws g m70) H → va_S (dA g) s.heap H locs → lv_has ls 6 [(0, .ref (dad g p0)), (1, .int p1), (2, .ref (dad g p2)), (3, .int p3), (4, .int v2)] → W p l e (headSpec wsX6_recountCrossings (dRm 3 72)).room s mth (([.ref (dad g p0), .int p1, .ref (dad g p2), .int p3] : List Value).toArray) below meth c H locs 0 0 (MQ below (dQV g m0) (([.ref (dad g p0), .int p1, .ref (dad g p2), .int p3] : List Value).toArray) s 0 0 (dA g)) (F0 mth 86 ls [])) q) ?_ dFl _ qL39 hqL39 ?_ H locs ls hP hS (lv_sub hl [0, 1, 2, 3, 4, 5] rfl)
      · intro q o h hCL39 hEL39
        obtain ⟨v40, m41⟩ := q
        have h : fX6_recountCrossings_l15 p1 p2 p3 v2 v40 m41 = some o := h
        intro H locs ls hP hS hl
        have hP : va_P g.1 vwCl (dws g m41) H := hP
        have hl : lv_has ls 6 [(5, .int v40), (4, .int v2), (0, .ref (dad g p0)), (1, .int p1), (2, .ref (dad g p2)), (3, .int p3)] := hl
        unfold fX6_recountCrossings_l15 at h
        refine lv_iload S.1 S.2.1 dX6_recountCrossings_15 (lv_at hl 0 rfl) ?_
        refine lv_iload_n S.1 S.2.1 dX6_recountCrossings_17 rfl (lv_at hl 5 rfl) ?_
        refine lv_icmp_ge (tgt := 86) S.1 S.2.1 dX6_recountCrossings_18 (by decide) (fun cq => ?_) (fun cq => ?_)
        · have h := d_t cq h
          obtain rfl := Option.some.inj h
          exact hEL39 _ rfl H locs ls hP hS (lv_sub hl [2, 3, 4, 5, 1] rfl)
        · have h := d_f cq h
          refine lv_aload_n S.1 S.2.1 dX6_recountCrossings_21 rfl (lv_at hl 2 rfl) ?_
          refine dgf6_3 S in6 hE hP k0 (S.2.2.2.2 (.fieldLink RX6 29 "DrillField$Recount" "found" "LDrillField$Fault;") (List.mem_of_getElem? (i := 1) rfl)) dX6_recountCrossings_22 ?_
          obtain ⟨v57, hc56, h⟩ := d_b h
          refine dri (va_runV (As := []) (rest := []) S (kX2_isFound l g hc56) (cwV 0 S.2.2.2.2 gX6_recountCrossings_X2_isFound rfl rfl rfl ynX2_isFound ⟨Nat.le_of_ble_eq_true rfl, Nat.le_of_ble_eq_true rfl⟩) (dpV hE hP hS (ci := 2) rfl (dat3 dk_390)) rfl rfl hl.1 rfl (lv_room (Nat.le_of_ble_eq_true rfl)) dX6_recountCrossings_25 ⟨Nat.le_of_ble_eq_true rfl, Nat.le_of_ble_eq_true rfl⟩) hS (fun H locs hP hS => ?_)
          refine lv_if_ne (tgt := 86) S.1 S.2.1 dX6_recountCrossings_28 (by decide) (fun cq => ?_) (fun cq => ?_)
          · have h := d_f cq h
            obtain rfl := Option.some.inj h
            exact hEL39 _ rfl H locs ls hP hS (lv_sub hl [2, 3, 4, 5, 1] rfl)
          · have h := d_t cq h
            refine lv_aload_n S.1 S.2.1 dX6_recountCrossings_31 rfl (lv_at hl 2 rfl) ?_
            refine dgf6_0 S in6 hE hP k0 (S.2.2.2.2 (.fieldLink RX6 12 "DrillField$Recount" "before" "LDrillField$Spots;") (List.mem_of_getElem? (i := 2) rfl)) dX6_recountCrossings_32 ?_
            refine lv_aload_n S.1 S.2.1 dX6_recountCrossings_35 rfl (lv_at hl 2 rfl) ?_
            refine dgf6_1 S in6 hE hP k0 (S.2.2.2.2 (.fieldLink RX6 18 "DrillField$Recount" "now" "LDrillField$Spots;") (List.mem_of_getElem? (i := 3) rfl)) dX6_recountCrossings_36 ?_
            refine lv_iload S.1 S.2.1 dX6_recountCrossings_39 (lv_at hl 1 rfl) ?_
            refine lv_iload S.1 S.2.1 dX6_recountCrossings_41 (lv_at hl 0 rfl) ?_
            obtain ⟨v59, hc58, h⟩ := d_b h
            refine dri (va_runV (As := [.ref (dad g 376), .int v2, .int v40]) (rest := []) S (kX9_isCrossing l g hc58) (cwV 3 S.2.2.2.2 gX6_recountCrossings_X9_isCrossing rfl rfl rfl ynX9_isCrossing ⟨Nat.le_of_ble_eq_true rfl, Nat.le_of_ble_eq_true rfl⟩) (dpV hE hP hS (ci := 9) rfl (dat10 dk_373)) rfl rfl hl.1 rfl (lv_room (Nat.le_of_ble_eq_true rfl)) dX6_recountCrossings_43 ⟨Nat.le_of_ble_eq_true rfl, Nat.le_of_ble_eq_true rfl⟩) hS (fun H locs hP hS => ?_)
            refine lv_if_eq (tgt := 80) S.1 S.2.1 dX6_recountCrossings_46 (by decide) (fun cq => ?_) (fun cq => ?_)
            · have h := d_t cq h
              obtain ⟨v60, ev60⟩ : ∃ z : Int32, z = v40 + 1 := ⟨_, rfl⟩
              have h := d_let ev60 h
              refine lv_iinc (v := v60) (lv' := [(5, .int v60), (4, .int v2), (0, .ref (dad g p0)), (1, .int p1), (2, .ref (dad g p2)), (3, .int p3)]) S.1 S.2.1 dX6_recountCrossings_80 hl (k := 0) rfl (by rw [ev60]; rfl) (by decide) rfl (fun ls hl => ?_)
              refine lv_goto (tgt := 15) S.1 S.2.1 dX6_recountCrossings_83 (by decide) ?_
              obtain rfl := Option.some.inj h
              exact hCL39 _ rfl H locs ls hP hS (lv_sub hl [0, 1, 2, 3, 4, 5] rfl)
            · have h := d_f cq h
              refine lv_aload_n S.1 S.2.1 dX6_recountCrossings_49 rfl (lv_at hl 4 rfl) ?_
              refine lv_iload S.1 S.2.1 dX6_recountCrossings_50 (lv_at hl 1 rfl) ?_
              obtain ⟨v62, hc61, h⟩ := d_b h
              refine dri (va_runV (As := [.int v2]) (rest := []) S (kX1_marches l g hc61) (cwV 1 S.2.2.2.2 gX6_recountCrossings_X1_marches rfl rfl rfl ynX1_marches ⟨Nat.le_of_ble_eq_true rfl, Nat.le_of_ble_eq_true rfl⟩) (dpV hE hP hS (ci := 1) rfl (dat2 k2)) rfl rfl hl.1 rfl (lv_room (Nat.le_of_ble_eq_true rfl)) dX6_recountCrossings_52 ⟨Nat.le_of_ble_eq_true rfl, Nat.le_of_ble_eq_true rfl⟩) hS (fun H locs hP hS => ?_)
              refine lv_if_eq (tgt := 80) S.1 S.2.1 dX6_recountCrossings_55 (by decide) (fun cq => ?_) (fun cq => ?_)
              · have h := d_t cq h
                obtain ⟨v63, ev63⟩ : ∃ z : Int32, z = v40 + 1 := ⟨_, rfl⟩
                have h := d_let ev63 h
                refine lv_iinc (v := v63) (lv' := [(5, .int v63), (4, .int v2), (0, .ref (dad g p0)), (1, .int p1), (2, .ref (dad g p2)), (3, .int p3)]) S.1 S.2.1 dX6_recountCrossings_80 hl (k := 0) rfl (by rw [ev63]; rfl) (by decide) rfl (fun ls hl => ?_)
                refine lv_goto (tgt := 15) S.1 S.2.1 dX6_recountCrossings_83 (by decide) ?_
                obtain rfl := Option.some.inj h
                exact hCL39 _ rfl H locs ls hP hS (lv_sub hl [0, 1, 2, 3, 4, 5] rfl)
              · have h := d_f cq h
                refine lv_aload_n S.1 S.2.1 dX6_recountCrossings_58 rfl (lv_at hl 4 rfl) ?_
                refine lv_iload S.1 S.2.1 dX6_recountCrossings_59 (lv_at hl 0 rfl) ?_
                obtain ⟨v65, hc64, h⟩ := d_b h
                refine dri (va_runV (As := [.int v40]) (rest := []) S (kX1_marches l g hc64) (cwV 1 S.2.2.2.2 gX6_recountCrossings_X1_marches rfl rfl rfl ynX1_marches ⟨Nat.le_of_ble_eq_true rfl, Nat.le_of_ble_eq_true rfl⟩) (dpV hE hP hS (ci := 1) rfl (dat2 k2)) rfl rfl hl.1 rfl (lv_room (Nat.le_of_ble_eq_true rfl)) dX6_recountCrossings_61 ⟨Nat.le_of_ble_eq_true rfl, Nat.le_of_ble_eq_true rfl⟩) hS (fun H locs hP hS => ?_)
                refine lv_if_eq (tgt := 80) S.1 S.2.1 dX6_recountCrossings_64 (by decide) (fun cq => ?_) (fun cq => ?_)
                · have h := d_t cq h
                  obtain ⟨v66, ev66⟩ : ∃ z : Int32, z = v40 + 1 := ⟨_, rfl⟩
                  have h := d_let ev66 h
                  refine lv_iinc (v := v66) (lv' := [(5, .int v66), (4, .int v2), (0, .ref (dad g p0)), (1, .int p1), (2, .ref (dad g p2)), (3, .int p3)]) S.1 S.2.1 dX6_recountCrossings_80 hl (k := 0) rfl (by rw [ev66]; rfl) (by decide) rfl (fun ls hl => ?_)
                  refine lv_goto (tgt := 15) S.1 S.2.1 dX6_recountCrossings_83 (by decide) ?_
                  obtain rfl := Option.some.inj h
                  exact hCL39 _ rfl H locs ls hP hS (lv_sub hl [0, 1, 2, 3, 4, 5] rfl)
                · have h := d_f cq h
                  refine lv_aload_n S.1 S.2.1 dX6_recountCrossings_67 rfl (lv_at hl 2 rfl) ?_
                  refine dgf6_3 S in6 hE hP k0 (S.2.2.2.2 (.fieldLink RX6 29 "DrillField$Recount" "found" "LDrillField$Fault;") (List.mem_of_getElem? (i := 1) rfl)) dX6_recountCrossings_68 ?_
                  refine lv_iload_n S.1 S.2.1 dX6_recountCrossings_71 rfl (lv_at hl 3 rfl) ?_
                  refine lv_iconst (v := 2) S.1 S.2.1 dX6_recountCrossings_72 (by decide) ?_
                  refine lv_iload S.1 S.2.1 dX6_recountCrossings_73 (lv_at hl 1 rfl) ?_
                  refine lv_iload S.1 S.2.1 dX6_recountCrossings_75 (lv_at hl 0 rfl) ?_
                  obtain ⟨m68, hc67, h⟩ := d_b h
                  refine drv (va_runV (As := [.int p1, .int 2, .int v2, .int v40]) (rest := []) S (kX2_tell l g hc67) (cwV 4 S.2.2.2.2 gX6_recountCrossings_X2_tell rfl rfl rfl ynX2_tell ⟨Nat.le_of_ble_eq_true rfl, Nat.le_of_ble_eq_true rfl⟩) (dpV hE hP hS (ci := 2) rfl (dat3 dk_390)) rfl rfl hl.1 rfl (lv_room (Nat.le_of_ble_eq_true rfl)) dX6_recountCrossings_77 ⟨Nat.le_of_ble_eq_true rfl, Nat.le_of_ble_eq_true rfl⟩) hS (fun H locs hP hS => ?_)
                  obtain ⟨v69, ev69⟩ : ∃ z : Int32, z = v40 + 1 := ⟨_, rfl⟩
                  have h := d_let ev69 h
                  refine lv_iinc (v := v69) (lv' := [(5, .int v69), (4, .int v2), (0, .ref (dad g p0)), (1, .int p1), (2, .ref (dad g p2)), (3, .int p3)]) S.1 S.2.1 dX6_recountCrossings_80 hl (k := 0) rfl (by rw [ev69]; rfl) (by decide) rfl (fun ls hl => ?_)
                  refine lv_goto (tgt := 15) S.1 S.2.1 dX6_recountCrossings_83 (by decide) ?_
                  obtain rfl := Option.some.inj h
                  exact hCL39 _ rfl H locs ls hP hS (lv_sub hl [0, 1, 2, 3, 4, 5] rfl)
      · obtain ⟨m70, rfl⟩ : ∃ z, z = qL39 := ⟨_, rfl⟩
        have h := d_p1 h
        intro H locs ls hP hS hl
        have hP : va_P g.1 vwCl (dws g m70) H := hP
        have hl : lv_has ls 6 [(0, .ref (dad g p0)), (1, .int p1), (2, .ref (dad g p2)), (3, .int p3), (4, .int v2)] := hl
        obtain ⟨v71, ev71⟩ : ∃ z : Int32, z = v2 + 1 := ⟨_, rfl⟩
        have h := d_let ev71 h
        refine lv_iinc (v := v71) (lv' := [(4, .int v71), (0, .ref (dad g p0)), (1, .int p1), (2, .ref (dad g p2)), (3, .int p3)]) S.1 S.2.1 dX6_recountCrossings_86 hl (k := 4) rfl (by rw [ev71]; rfl) (by decide) rfl (fun ls hl => ?_)
        refine lv_goto (tgt := 3) S.1 S.2.1 dX6_recountCrossings_89 (by decide) ?_
        obtain rfl := Option.some.inj h
        exact hCL1 _ rfl H locs ls hP hS (lv_sub hl [0, 1, 2, 3, 4] rfl)
  · obtain ⟨m72, rfl⟩ : ∃ z, z = qL1 := ⟨_, rfl⟩
    have h := d_p1 h
    intro H locs ls hP hS hl
    have hP : va_P g.1 vwCl (dws g m72) H := hP
    have hl : lv_has ls 6 [] := hl
    obtain rfl := Option.some.inj h
    exact dtv S hr hlk hE hP hS dX6_recountCrossings_92
set_option maxRecDepth 20000 in
theorem ggX6_look_X1_number : GoodIn wsX6_look wsX1_number := goodIn_r _ [12, 13, 140, 141, 142, 143, 144] (by decide +kernel) (by decide +kernel)
set_option maxRecDepth 20000 in
theorem gX6_look_X1_number : GoodIn wsX6_look (wsV RX6 33 RX1 yX1_number wsX1_number) := goodIn_app (goodIn_of _ (by decide +kernel)) ggX6_look_X1_number
set_option maxRecDepth 20000 in
theorem ggX6_look_X2_clear : GoodIn wsX6_look wsX2_clear := goodIn_r _ [18, 19, 20, 21, 17, 22, 23, 24, 25, 26, 145, 146, 147, 148] (by decide +kernel) (by decide +kernel)
set_option maxRecDepth 20000 in
theorem gX6_look_X2_clear : GoodIn wsX6_look (wsV RX6 45 RX2 yX2_clear wsX2_clear) := goodIn_app (goodIn_of _ (by decide +kernel)) ggX6_look_X2_clear
set_option maxRecDepth 20000 in
theorem ggX6_look_X5_stand : GoodIn wsX6_look wsX5_stand := goodIn_r _ [31, 32, 33, 34, 30, 35, 36, 37, 38, 39, 40, 41, 42, 43, 44, 45, 46, 47, 48, 49, 50, 51, 52, 53, 54, 55, 56, 57, 58, 59, 60, 61, 62, 63, 64, 65, 66, 149, 150, 151, 152, 153, 154, 155, 156, 157] (by decide +kernel) (by decide +kernel)
set_option maxRecDepth 20000 in
theorem gX6_look_X5_stand : GoodIn wsX6_look (wsV RX6 48 RX5 yX5_stand wsX5_stand) := goodIn_app (goodIn_of _ (by decide +kernel)) ggX6_look_X5_stand
set_option maxRecDepth 20000 in
theorem ggX6_look_X5_counts : GoodIn wsX6_look wsX5_counts := goodIn_r _ [70, 38, 149, 150, 151, 152, 153, 154, 155] (by decide +kernel) (by decide +kernel)
set_option maxRecDepth 20000 in
theorem gX6_look_X5_counts : GoodIn wsX6_look (wsV RX6 54 RX5 yX5_counts wsX5_counts) := goodIn_app (goodIn_of _ (by decide +kernel)) ggX6_look_X5_counts
set_option maxRecDepth 20000 in
theorem ggX6_look_X2_isFound : GoodIn wsX6_look wsX2_isFound := goodIn_r _ [74, 23, 145, 146, 147, 148] (by decide +kernel) (by decide +kernel)
set_option maxRecDepth 20000 in
theorem gX6_look_X2_isFound : GoodIn wsX6_look (wsV RX6 57 RX2 yX2_isFound wsX2_isFound) := goodIn_app (goodIn_of _ (by decide +kernel)) ggX6_look_X2_isFound
set_option maxRecDepth 20000 in
theorem ggX6_look_X6_measure : GoodIn wsX6_look wsX6_measure := goodIn_r _ [79, 80, 7, 6, 81, 82, 83, 42, 84, 44, 62, 45, 46, 47, 85, 86, 136, 137, 138, 139, 156, 157] (by decide +kernel) (by decide +kernel)
set_option maxRecDepth 20000 in
theorem gX6_look_X6_measure : GoodIn wsX6_look (wsV RX6 61 RX6 yX6_measure wsX6_measure) := goodIn_app (goodIn_of _ (by decide +kernel)) ggX6_look_X6_measure
set_option maxRecDepth 20000 in
theorem ggX6_look_X5_tempo : GoodIn wsX6_look wsX5_tempo := goodIn_r _ [90, 91, 149, 150, 151, 152, 153, 154, 155] (by decide +kernel) (by decide +kernel)
set_option maxRecDepth 20000 in
theorem gX6_look_X5_tempo : GoodIn wsX6_look (wsV RX6 65 RX5 yX5_tempo wsX5_tempo) := goodIn_app (goodIn_of _ (by decide +kernel)) ggX6_look_X5_tempo
set_option maxRecDepth 20000 in
theorem ggX6_look_X6_recountSteps : GoodIn wsX6_look wsX6_recountSteps := goodIn_r _ [95, 5, 80, 71, 72, 73, 17, 74, 23, 96, 97, 98, 11, 99, 100, 101, 102, 45, 46, 47, 103, 104, 105, 106, 107, 108, 109, 110, 111, 48, 49, 50, 51, 52, 53, 112, 20, 21, 22, 24, 25, 26, 136, 137, 138, 139, 145, 146, 147, 148, 140, 141, 142, 143, 144] (by decide +kernel) (by decide +kernel)
set_option maxRecDepth 20000 in
theorem gX6_look_X6_recountSteps : GoodIn wsX6_look (wsV RX6 68 RX6 yX6_recountSteps wsX6_recountSteps) := goodIn_app (goodIn_of _ (by decide +kernel)) ggX6_look_X6_recountSteps
set_option maxRecDepth 20000 in
theorem ggX6_look_X6_recountNear : GoodIn wsX6_look wsX6_recountNear := goodIn_r _ [116, 5, 80, 71, 72, 73, 17, 74, 23, 96, 97, 98, 11, 99, 100, 101, 102, 45, 46, 47, 112, 20, 21, 22, 24, 25, 26, 136, 137, 138, 139, 145, 146, 147, 148, 140, 141, 142, 143, 144] (by decide +kernel) (by decide +kernel)
set_option maxRecDepth 20000 in
theorem gX6_look_X6_recountNear : GoodIn wsX6_look (wsV RX6 72 RX6 yX6_recountNear wsX6_recountNear) := goodIn_app (goodIn_of _ (by decide +kernel)) ggX6_look_X6_recountNear
set_option maxRecDepth 20000 in
theorem ggX6_look_X6_recountCrossings : GoodIn wsX6_look wsX6_recountCrossings := goodIn_r _ [120, 5, 6, 7, 71, 72, 73, 17, 74, 23, 121, 122, 123, 42, 124, 125, 126, 127, 128, 44, 62, 45, 46, 47, 96, 97, 98, 11, 99, 100, 101, 102, 112, 20, 21, 22, 24, 25, 26, 136, 137, 138, 139, 145, 146, 147, 148, 156, 157, 140, 141, 142, 143, 144] (by decide +kernel) (by decide +kernel)
set_option maxRecDepth 20000 in
theorem gX6_look_X6_recountCrossings : GoodIn wsX6_look (wsV RX6 76 RX6 yX6_recountCrossings wsX6_recountCrossings) := goodIn_app (goodIn_of _ (by decide +kernel)) ggX6_look_X6_recountCrossings
set_option maxRecDepth 20000 in
theorem ggX6_look_X9_copy : GoodIn wsX6_look wsX9_copy := goodIn_r _ [132, 133, 40, 41, 42, 43, 44, 45, 46, 47, 134, 59, 60, 61, 62, 135, 64, 65, 66, 156, 157] (by decide +kernel) (by decide +kernel)
set_option maxRecDepth 20000 in
theorem gX6_look_X9_copy : GoodIn wsX6_look (wsV RX6 79 RX9 yX9_copy wsX9_copy) := goodIn_app (goodIn_of _ (by decide +kernel)) ggX6_look_X9_copy
theorem dX6_look_0 : decode cX6_look 0 = .ok (.aload_n 2, 1) := by decide +kernel
theorem dX6_look_1 : decode cX6_look 1 = .ok (.invokevirtual 33, 3) := by decide +kernel
theorem dX6_look_4 : decode cX6_look 4 = .ok (.bipush 10, 2) := by decide +kernel
theorem dX6_look_6 : decode cX6_look 6 = .ok (.invokestatic 39, 3) := by decide +kernel
theorem dX6_look_9 : decode cX6_look 9 = .ok (.istore_n 3, 1) := by decide +kernel
theorem dX6_look_10 : decode cX6_look 10 = .ok (.aload_n 0, 1) := by decide +kernel
theorem dX6_look_11 : decode cX6_look 11 = .ok (.getfield 29, 3) := by decide +kernel
theorem dX6_look_14 : decode cX6_look 14 = .ok (.invokevirtual 45, 3) := by decide +kernel
theorem dX6_look_17 : decode cX6_look 17 = .ok (.aload_n 1, 1) := by decide +kernel
theorem dX6_look_18 : decode cX6_look 18 = .ok (.iconst 0, 1) := by decide +kernel
theorem dX6_look_19 : decode cX6_look 19 = .ok (.aload_n 0, 1) := by decide +kernel
theorem dX6_look_20 : decode cX6_look 20 = .ok (.getfield 12, 3) := by decide +kernel
theorem dX6_look_23 : decode cX6_look 23 = .ok (.iload_n 3, 1) := by decide +kernel
theorem dX6_look_24 : decode cX6_look 24 = .ok (.invokevirtual 48, 3) := by decide +kernel
theorem dX6_look_27 : decode cX6_look 27 = .ok (.iconst 1, 1) := by decide +kernel
theorem dX6_look_28 : decode cX6_look 28 = .ok (.istore 4, 2) := by decide +kernel
theorem dX6_look_30 : decode cX6_look 30 = .ok (.iload 4, 2) := by decide +kernel
theorem dX6_look_32 : decode cX6_look 32 = .ok (.aload_n 1, 1) := by decide +kernel
theorem dX6_look_33 : decode cX6_look 33 = .ok (.invokevirtual 54, 3) := by decide +kernel
theorem dX6_look_36 : decode cX6_look 36 = .ok (.if_icmp .gt 74, 3) := by decide +kernel
theorem dX6_look_39 : decode cX6_look 39 = .ok (.aload_n 0, 1) := by decide +kernel
theorem dX6_look_40 : decode cX6_look 40 = .ok (.getfield 29, 3) := by decide +kernel
theorem dX6_look_43 : decode cX6_look 43 = .ok (.invokevirtual 57, 3) := by decide +kernel
theorem dX6_look_46 : decode cX6_look 46 = .ok (.ifCond .ne 64, 3) := by decide +kernel
theorem dX6_look_49 : decode cX6_look 49 = .ok (.aload_n 1, 1) := by decide +kernel
theorem dX6_look_50 : decode cX6_look 50 = .ok (.iload 4, 2) := by decide +kernel
theorem dX6_look_52 : decode cX6_look 52 = .ok (.aload_n 0, 1) := by decide +kernel
theorem dX6_look_53 : decode cX6_look 53 = .ok (.getfield 18, 3) := by decide +kernel
theorem dX6_look_56 : decode cX6_look 56 = .ok (.iload_n 3, 1) := by decide +kernel
theorem dX6_look_57 : decode cX6_look 57 = .ok (.invokevirtual 48, 3) := by decide +kernel
theorem dX6_look_60 : decode cX6_look 60 = .ok (.aload_n 0, 1) := by decide +kernel
theorem dX6_look_61 : decode cX6_look 61 = .ok (.iload_n 3, 1) := by decide +kernel
theorem dX6_look_62 : decode cX6_look 62 = .ok (.invokevirtual 61, 3) := by decide +kernel
theorem dX6_look_65 : decode cX6_look 65 = .ok (.aload_n 0, 1) := by decide +kernel
theorem dX6_look_66 : decode cX6_look 66 = .ok (.iload 4, 2) := by decide +kernel
theorem dX6_look_68 : decode cX6_look 68 = .ok (.aload_n 1, 1) := by decide +kernel
theorem dX6_look_69 : decode cX6_look 69 = .ok (.invokevirtual 65, 3) := by decide +kernel
theorem dX6_look_72 : decode cX6_look 72 = .ok (.aload_n 2, 1) := by decide +kernel
theorem dX6_look_73 : decode cX6_look 73 = .ok (.iload_n 3, 1) := by decide +kernel
theorem dX6_look_74 : decode cX6_look 74 = .ok (.invokevirtual 68, 3) := by decide +kernel
theorem dX6_look_77 : decode cX6_look 77 = .ok (.aload_n 0, 1) := by decide +kernel
theorem dX6_look_78 : decode cX6_look 78 = .ok (.iload 4, 2) := by decide +kernel
theorem dX6_look_80 : decode cX6_look 80 = .ok (.aload_n 2, 1) := by decide +kernel
theorem dX6_look_81 : decode cX6_look 81 = .ok (.iload_n 3, 1) := by decide +kernel
theorem dX6_look_82 : decode cX6_look 82 = .ok (.invokevirtual 72, 3) := by decide +kernel
theorem dX6_look_85 : decode cX6_look 85 = .ok (.aload_n 0, 1) := by decide +kernel
theorem dX6_look_86 : decode cX6_look 86 = .ok (.iload 4, 2) := by decide +kernel
theorem dX6_look_88 : decode cX6_look 88 = .ok (.aload_n 2, 1) := by decide +kernel
theorem dX6_look_89 : decode cX6_look 89 = .ok (.iload_n 3, 1) := by decide +kernel
theorem dX6_look_90 : decode cX6_look 90 = .ok (.invokevirtual 76, 3) := by decide +kernel
theorem dX6_look_93 : decode cX6_look 93 = .ok (.aload_n 0, 1) := by decide +kernel
theorem dX6_look_94 : decode cX6_look 94 = .ok (.getfield 12, 3) := by decide +kernel
theorem dX6_look_97 : decode cX6_look 97 = .ok (.aload_n 0, 1) := by decide +kernel
theorem dX6_look_98 : decode cX6_look 98 = .ok (.getfield 18, 3) := by decide +kernel
theorem dX6_look_101 : decode cX6_look 101 = .ok (.invokevirtual 79, 3) := by decide +kernel
theorem dX6_look_104 : decode cX6_look 104 = .ok (.iinc 4 1, 3) := by decide +kernel
theorem dX6_look_107 : decode cX6_look 107 = .ok (.goto (-77), 3) := by decide +kernel
theorem dX6_look_110 : decode cX6_look 110 = .ok (.aload_n 0, 1) := by decide +kernel
theorem dX6_look_111 : decode cX6_look 111 = .ok (.getfield 29, 3) := by decide +kernel
theorem dX6_look_114 : decode cX6_look 114 = .ok (.areturn, 1) := by decide +kernel
def fX6_look_l30 (p0 : Nat) (p1 : Nat) (p2 : Nat) (v3 : Int32) (v9 : Int32) (m10 : dM) : Option ((Int32 × dM) ⊕ dM) := (fX5_counts m10 p1).bind (fun v31 => if v31 < v9 then some (.inr m10) else (fX2_isFound m10 390).bind (fun v33 => if v33 = 0 then (fX5_stand m10 p1 v9 376 v3).bind (fun m35 => (fX6_measure m35 p0 v3).bind (fun m37 => (fX5_tempo m37 p1).bind (fun v39 => (fX6_recountSteps m37 p0 v9 v39 p2 v3).bind (fun m41 => (fX6_recountNear m41 p0 v9 p2 v3).bind (fun m43 => (fX6_recountCrossings m43 p0 v9 p2 v3).bind (fun m45 => (fX9_copy m45 373 376).bind (fun m47 => dlet (v9 + 1 : Int32) (fun v48 => some (.inl (v48, m47)))))))))) else some (.inr m10)))
def fX6_look (m : dM) (p0 : Nat) (p1 : Nat) (p2 : Nat) : Option (Nat × dM) := dg (dkg p0 7) (dg (dkg p1 6) (dg (dkg p2 2) ((fX1_number m p2).bind (fun v2 => dlet (if 10 < v2 then 10 else v2 : Int32) (fun v3 => (fX2_clear m 390).bind (fun m5 => (fX5_stand m5 p1 0 373 v3).bind (fun m7 => (dlp (fun q => dP2 q (fun v9 m10 => fX6_look_l30 p0 p1 p2 v3 v9 m10)) dFl (1, m7)).bind (fun q => dP1 q (fun m49 => some (390, m49))))))))))
set_option maxHeartbeats 4000000 in
set_option maxRecDepth 100000 in
theorem kX6_look (l : Launch) (g : dG) {m : dM} {p0 : Nat} {p1 : Nat} {p2 : Nat} {r0 : Nat} {m0 : dM} (h : fX6_look m p0 p1 p2 = some (r0, m0)) : dMet l g yX6_look wsX6_look (dRm 4 97) [.ref (dad g p0), .ref (dad g p1), .ref (dad g p2)] m (dQR g r0 m0) := by
  refine dof (cc := cX6_look) (maxL := 5) (ret := (some (.object "DrillField$Fault"))) _ (plainFor_of_name (by decide)) rfl (Nat.le_of_ble_eq_true rfl) ?_
  intro p e s mth below meth c S hr hlk hE H ls hP hS hl
  have S : CallFix p mth c cX6_look 5 s _ wsX6_look RX6 := S
  have hl : lv_has ls 5 [(0, .ref (dad g p0)), (1, .ref (dad g p1)), (2, .ref (dad g p2))] := hl
  obtain ⟨locs, hlocs⟩ : ∃ z : List Loc, z = [] := ⟨_, rfl⟩
  rw [← hlocs] at hS ⊢
  have in6 : ∀ w ∈ wsX60, w ∈ wsX6_look := by decide +kernel
  unfold fX6_look at h
  obtain ⟨k0, h⟩ := d_g h
  have k0 := d_k k0
  obtain ⟨k1, h⟩ := d_g h
  have k1 := d_k k1
  obtain ⟨k2, h⟩ := d_g h
  have k2 := d_k k2
  refine lv_aload_n S.1 S.2.1 dX6_look_0 rfl (lv_at hl 2 rfl) ?_
  obtain ⟨v2, hc1, h⟩ := d_b h
  refine dri (va_runV (As := []) (rest := []) S (kX1_number l g hc1) (cwV 0 S.2.2.2.2 gX6_look_X1_number rfl rfl rfl ynX1_number ⟨Nat.le_of_ble_eq_true rfl, Nat.le_of_ble_eq_true rfl⟩) (dpV hE hP hS (ci := 1) rfl (dat2 k2)) rfl rfl hl.1 rfl (lv_room (Nat.le_of_ble_eq_true rfl)) dX6_look_1 ⟨Nat.le_of_ble_eq_true rfl, Nat.le_of_ble_eq_true rfl⟩) hS (fun H locs hP hS => ?_)
  refine lv_bipush (v := 10) S.1 S.2.1 dX6_look_4 (by decide) ?_
  refine va_mmin S.1 S.2.1 (S.2.2.1.trans hl.1.symm) S.2.2.2.1 (S.2.2.2.2 (.methodLink RX6 39 Lib.Math.min.name) (List.mem_of_getElem? (i := 1) rfl)) (S.2.2.2.2 (.static Lib.Math.min.name) (List.mem_of_getElem? (i := 2) rfl)) (S.2.2.2.2 (.initialized "java/lang/Math") (List.mem_of_getElem? (i := 3) rfl)) (S.2.2.2.2 (.code Lib.Math.min.name Lib.Math.min.code 2 (some .int)) (List.mem_of_getElem? (i := 4) rfl)) (Nat.le_of_ble_eq_true rfl) (Nat.le_of_ble_eq_true rfl) (Nat.le_of_ble_eq_true rfl) (Nat.le_of_ble_eq_true rfl) dX6_look_6 ?_
  refine lv_topi (fun v3 ev3 => ?_)
  have h := d_let ev3 h
  refine lv_istore_n (lv' := [(3, .int v3), (0, .ref (dad g p0)), (1, .ref (dad g p1)), (2, .ref (dad g p2))]) S.1 S.2.1 dX6_look_9 rfl hl (by decide) rfl (fun ls hl => ?_)
  refine lv_aload_n S.1 S.2.1 dX6_look_10 rfl (lv_at hl 1 rfl) ?_
  refine dgf6_3 S in6 hE hP k0 (S.2.2.2.2 (.fieldLink RX6 29 "DrillField$Recount" "found" "LDrillField$Fault;") (List.mem_of_getElem? (i := 5) rfl)) dX6_look_11 ?_
  obtain ⟨m5, hc4, h⟩ := d_b h
  refine drv (va_runV (As := []) (rest := []) S (kX2_clear l g hc4) (cwV 0 S.2.2.2.2 gX6_look_X2_clear rfl rfl rfl ynX2_clear ⟨Nat.le_of_ble_eq_true rfl, Nat.le_of_ble_eq_true rfl⟩) (dpV hE hP hS (ci := 2) rfl (dat3 dk_390)) rfl rfl hl.1 rfl (lv_room (Nat.le_of_ble_eq_true rfl)) dX6_look_14 ⟨Nat.le_of_ble_eq_true rfl, Nat.le_of_ble_eq_true rfl⟩) hS (fun H locs hP hS => ?_)
  refine lv_aload_n S.1 S.2.1 dX6_look_17 rfl (lv_at hl 2 rfl) ?_
  refine lv_iconst (v := 0) S.1 S.2.1 dX6_look_18 (by decide) ?_
  refine lv_aload_n S.1 S.2.1 dX6_look_19 rfl (lv_at hl 1 rfl) ?_
  refine dgf6_0 S in6 hE hP k0 (S.2.2.2.2 (.fieldLink RX6 12 "DrillField$Recount" "before" "LDrillField$Spots;") (List.mem_of_getElem? (i := 6) rfl)) dX6_look_20 ?_
  refine lv_iload_n S.1 S.2.1 dX6_look_23 rfl (lv_at hl 0 rfl) ?_
  obtain ⟨m7, hc6, h⟩ := d_b h
  refine drv (va_runV (As := [.int 0, .ref (dad g 373), .int v3]) (rest := []) S (kX5_stand l g hc6) (cwV 3 S.2.2.2.2 gX6_look_X5_stand rfl rfl rfl ynX5_stand ⟨Nat.le_of_ble_eq_true rfl, Nat.le_of_ble_eq_true rfl⟩) (dpV hE hP hS (ci := 5) rfl (dat6 k1)) rfl rfl hl.1 rfl (lv_room (Nat.le_of_ble_eq_true rfl)) dX6_look_24 ⟨Nat.le_of_ble_eq_true rfl, Nat.le_of_ble_eq_true rfl⟩) hS (fun H locs hP hS => ?_)
  refine lv_iconst (v := 1) S.1 S.2.1 dX6_look_27 (by decide) ?_
  refine lv_istore (lv' := [(4, .int 1), (3, .int v3), (0, .ref (dad g p0)), (1, .ref (dad g p1)), (2, .ref (dad g p2))]) S.1 S.2.1 dX6_look_28 hl (by decide) rfl (fun ls hl => ?_)
  obtain ⟨qL8, hqL8, h⟩ := d_b h
  refine d_lp (Hd := fun q => match q with | (v9, m10) => ∀ (H : Heap) (locs : List Loc) (ls : Array Slot), va_P g.1 vwCl (dws g m10) H → va_S (dA g) s.heap H locs → lv_has ls 5 [(4, .int v9), (3, .int v3), (0, .ref (dad g p0)), (1, .ref (dad g p1)), (2, .ref (dad g p2))] → W p l e (headSpec wsX6_look (dRm 4 97)).room s mth (([.ref (dad g p0), .ref (dad g p1), .ref (dad g p2)] : List Value).toArray) below meth c H locs 0 0 (MQ below (dQR g r0 m0) (([.ref (dad g p0), .ref (dad g p1), .ref (dad g p2)] : List Value).toArray) s 0 0 (dA g)) (F0 mth 30 ls [])) (K := fun q => (fun (m49 : _) => ∀ (H : Heap) (locs : List Loc) (ls : Array Slot), va_P g.1 vwCl (dws g m49) H → va_S (dA g) s.heap H locs → lv_has ls 5 [(0, .ref (dad g p0))] → W p l e (headSpec wsX6_look (dRm 4 97)).room s mth (([.ref (dad g p0), .ref (dad g p1), .ref (dad g p2)] : List Value).toArray) below meth c H locs 0 0 (MQ below (dQR g r0 m0) (([.ref (dad g p0), .ref (dad g p1), .ref (dad g p2)] : List Value).toArray) s 0 0 (dA g)) (F0 mth 110 ls [])) q) ?_ dFl _ qL8 hqL8 ?_ H locs ls hP hS (lv_sub hl [0, 1, 2, 3, 4] rfl)
  · intro q o h hCL8 hEL8
    obtain ⟨v9, m10⟩ := q
    have h : fX6_look_l30 p0 p1 p2 v3 v9 m10 = some o := h
    intro H locs ls hP hS hl
    have hP : va_P g.1 vwCl (dws g m10) H := hP
    have hl : lv_has ls 5 [(4, .int v9), (3, .int v3), (0, .ref (dad g p0)), (1, .ref (dad g p1)), (2, .ref (dad g p2))] := hl
    unfold fX6_look_l30 at h
    refine lv_iload S.1 S.2.1 dX6_look_30 (lv_at hl 0 rfl) ?_
    refine lv_aload_n S.1 S.2.1 dX6_look_32 rfl (lv_at hl 3 rfl) ?_
    obtain ⟨v31, hc30, h⟩ := d_b h
    refine dri (va_runV (As := []) (rest := [.int v9]) S (kX5_counts l g hc30) (cwV 0 S.2.2.2.2 gX6_look_X5_counts rfl rfl rfl ynX5_counts ⟨Nat.le_of_ble_eq_true rfl, Nat.le_of_ble_eq_true rfl⟩) (dpV hE hP hS (ci := 5) rfl (dat6 k1)) rfl rfl hl.1 rfl (lv_room (Nat.le_of_ble_eq_true rfl)) dX6_look_33 ⟨Nat.le_of_ble_eq_true rfl, Nat.le_of_ble_eq_true rfl⟩) hS (fun H locs hP hS => ?_)
    refine lv_icmp_gt (tgt := 110) S.1 S.2.1 dX6_look_36 (by decide) (fun cq => ?_) (fun cq => ?_)
    · have h := d_t cq h
      obtain rfl := Option.some.inj h
      exact hEL8 _ rfl H locs ls hP hS (lv_sub hl [2] rfl)
    · have h := d_f cq h
      refine lv_aload_n S.1 S.2.1 dX6_look_39 rfl (lv_at hl 2 rfl) ?_
      refine dgf6_3 S in6 hE hP k0 (S.2.2.2.2 (.fieldLink RX6 29 "DrillField$Recount" "found" "LDrillField$Fault;") (List.mem_of_getElem? (i := 5) rfl)) dX6_look_40 ?_
      obtain ⟨v33, hc32, h⟩ := d_b h
      refine dri (va_runV (As := []) (rest := []) S (kX2_isFound l g hc32) (cwV 0 S.2.2.2.2 gX6_look_X2_isFound rfl rfl rfl ynX2_isFound ⟨Nat.le_of_ble_eq_true rfl, Nat.le_of_ble_eq_true rfl⟩) (dpV hE hP hS (ci := 2) rfl (dat3 dk_390)) rfl rfl hl.1 rfl (lv_room (Nat.le_of_ble_eq_true rfl)) dX6_look_43 ⟨Nat.le_of_ble_eq_true rfl, Nat.le_of_ble_eq_true rfl⟩) hS (fun H locs hP hS => ?_)
      refine lv_if_ne (tgt := 110) S.1 S.2.1 dX6_look_46 (by decide) (fun cq => ?_) (fun cq => ?_)
      · have h := d_f cq h
        obtain rfl := Option.some.inj h
        exact hEL8 _ rfl H locs ls hP hS (lv_sub hl [2] rfl)
      · have h := d_t cq h
        refine lv_aload_n S.1 S.2.1 dX6_look_49 rfl (lv_at hl 3 rfl) ?_
        refine lv_iload S.1 S.2.1 dX6_look_50 (lv_at hl 0 rfl) ?_
        refine lv_aload_n S.1 S.2.1 dX6_look_52 rfl (lv_at hl 2 rfl) ?_
        refine dgf6_1 S in6 hE hP k0 (S.2.2.2.2 (.fieldLink RX6 18 "DrillField$Recount" "now" "LDrillField$Spots;") (List.mem_of_getElem? (i := 7) rfl)) dX6_look_53 ?_
        refine lv_iload_n S.1 S.2.1 dX6_look_56 rfl (lv_at hl 1 rfl) ?_
        obtain ⟨m35, hc34, h⟩ := d_b h
        refine drv (va_runV (As := [.int v9, .ref (dad g 376), .int v3]) (rest := []) S (kX5_stand l g hc34) (cwV 3 S.2.2.2.2 gX6_look_X5_stand rfl rfl rfl ynX5_stand ⟨Nat.le_of_ble_eq_true rfl, Nat.le_of_ble_eq_true rfl⟩) (dpV hE hP hS (ci := 5) rfl (dat6 k1)) rfl rfl hl.1 rfl (lv_room (Nat.le_of_ble_eq_true rfl)) dX6_look_57 ⟨Nat.le_of_ble_eq_true rfl, Nat.le_of_ble_eq_true rfl⟩) hS (fun H locs hP hS => ?_)
        refine lv_aload_n S.1 S.2.1 dX6_look_60 rfl (lv_at hl 2 rfl) ?_
        refine lv_iload_n S.1 S.2.1 dX6_look_61 rfl (lv_at hl 1 rfl) ?_
        obtain ⟨m37, hc36, h⟩ := d_b h
        refine drv (va_runV (As := [.int v3]) (rest := []) S (kX6_measure l g hc36) (cwV 1 S.2.2.2.2 gX6_look_X6_measure rfl rfl rfl ynX6_measure ⟨Nat.le_of_ble_eq_true rfl, Nat.le_of_ble_eq_true rfl⟩) (dpV hE hP hS (ci := 6) rfl (dat7 k0)) rfl rfl hl.1 rfl (lv_room (Nat.le_of_ble_eq_true rfl)) dX6_look_62 ⟨Nat.le_of_ble_eq_true rfl, Nat.le_of_ble_eq_true rfl⟩) hS (fun H locs hP hS => ?_)
        refine lv_aload_n S.1 S.2.1 dX6_look_65 rfl (lv_at hl 2 rfl) ?_
        refine lv_iload S.1 S.2.1 dX6_look_66 (lv_at hl 0 rfl) ?_
        refine lv_aload_n S.1 S.2.1 dX6_look_68 rfl (lv_at hl 3 rfl) ?_
        obtain ⟨v39, hc38, h⟩ := d_b h
        refine dri (va_runV (As := []) (rest := [.int v9, .ref (dad g p0)]) S (kX5_tempo l g hc38) (cwV 0 S.2.2.2.2 gX6_look_X5_tempo rfl rfl rfl ynX5_tempo ⟨Nat.le_of_ble_eq_true rfl, Nat.le_of_ble_eq_true rfl⟩) (dpV hE hP hS (ci := 5) rfl (dat6 k1)) rfl rfl hl.1 rfl (lv_room (Nat.le_of_ble_eq_true rfl)) dX6_look_69 ⟨Nat.le_of_ble_eq_true rfl, Nat.le_of_ble_eq_true rfl⟩) hS (fun H locs hP hS => ?_)
        refine lv_aload_n S.1 S.2.1 dX6_look_72 rfl (lv_at hl 4 rfl) ?_
        refine lv_iload_n S.1 S.2.1 dX6_look_73 rfl (lv_at hl 1 rfl) ?_
        obtain ⟨m41, hc40, h⟩ := d_b h
        refine drv (va_runV (As := [.int v9, .int v39, .ref (dad g p2), .int v3]) (rest := []) S (kX6_recountSteps l g hc40) (cwV 4 S.2.2.2.2 gX6_look_X6_recountSteps rfl rfl rfl ynX6_recountSteps ⟨Nat.le_of_ble_eq_true rfl, Nat.le_of_ble_eq_true rfl⟩) (dpV hE hP hS (ci := 6) rfl (dat7 k0)) rfl rfl hl.1 rfl (lv_room (Nat.le_of_ble_eq_true rfl)) dX6_look_74 ⟨Nat.le_of_ble_eq_true rfl, Nat.le_of_ble_eq_true rfl⟩) hS (fun H locs hP hS => ?_)
        refine lv_aload_n S.1 S.2.1 dX6_look_77 rfl (lv_at hl 2 rfl) ?_
        refine lv_iload S.1 S.2.1 dX6_look_78 (lv_at hl 0 rfl) ?_
        refine lv_aload_n S.1 S.2.1 dX6_look_80 rfl (lv_at hl 4 rfl) ?_
        refine lv_iload_n S.1 S.2.1 dX6_look_81 rfl (lv_at hl 1 rfl) ?_
        obtain ⟨m43, hc42, h⟩ := d_b h
        refine drv (va_runV (As := [.int v9, .ref (dad g p2), .int v3]) (rest := []) S (kX6_recountNear l g hc42) (cwV 3 S.2.2.2.2 gX6_look_X6_recountNear rfl rfl rfl ynX6_recountNear ⟨Nat.le_of_ble_eq_true rfl, Nat.le_of_ble_eq_true rfl⟩) (dpV hE hP hS (ci := 6) rfl (dat7 k0)) rfl rfl hl.1 rfl (lv_room (Nat.le_of_ble_eq_true rfl)) dX6_look_82 ⟨Nat.le_of_ble_eq_true rfl, Nat.le_of_ble_eq_true rfl⟩) hS (fun H locs hP hS => ?_)
        refine lv_aload_n S.1 S.2.1 dX6_look_85 rfl (lv_at hl 2 rfl) ?_
        refine lv_iload S.1 S.2.1 dX6_look_86 (lv_at hl 0 rfl) ?_
        refine lv_aload_n S.1 S.2.1 dX6_look_88 rfl (lv_at hl 4 rfl) ?_
        refine lv_iload_n S.1 S.2.1 dX6_look_89 rfl (lv_at hl 1 rfl) ?_
        obtain ⟨m45, hc44, h⟩ := d_b h
        refine drv (va_runV (As := [.int v9, .ref (dad g p2), .int v3]) (rest := []) S (kX6_recountCrossings l g hc44) (cwV 3 S.2.2.2.2 gX6_look_X6_recountCrossings rfl rfl rfl ynX6_recountCrossings ⟨Nat.le_of_ble_eq_true rfl, Nat.le_of_ble_eq_true rfl⟩) (dpV hE hP hS (ci := 6) rfl (dat7 k0)) rfl rfl hl.1 rfl (lv_room (Nat.le_of_ble_eq_true rfl)) dX6_look_90 ⟨Nat.le_of_ble_eq_true rfl, Nat.le_of_ble_eq_true rfl⟩) hS (fun H locs hP hS => ?_)
        refine lv_aload_n S.1 S.2.1 dX6_look_93 rfl (lv_at hl 2 rfl) ?_
        refine dgf6_0 S in6 hE hP k0 (S.2.2.2.2 (.fieldLink RX6 12 "DrillField$Recount" "before" "LDrillField$Spots;") (List.mem_of_getElem? (i := 6) rfl)) dX6_look_94 ?_
        refine lv_aload_n S.1 S.2.1 dX6_look_97 rfl (lv_at hl 2 rfl) ?_
        refine dgf6_1 S in6 hE hP k0 (S.2.2.2.2 (.fieldLink RX6 18 "DrillField$Recount" "now" "LDrillField$Spots;") (List.mem_of_getElem? (i := 7) rfl)) dX6_look_98 ?_
        obtain ⟨m47, hc46, h⟩ := d_b h
        refine drv (va_runV (As := [.ref (dad g 376)]) (rest := []) S (kX9_copy l g hc46) (cwV 1 S.2.2.2.2 gX6_look_X9_copy rfl rfl rfl ynX9_copy ⟨Nat.le_of_ble_eq_true rfl, Nat.le_of_ble_eq_true rfl⟩) (dpV hE hP hS (ci := 9) rfl (dat10 dk_373)) rfl rfl hl.1 rfl (lv_room (Nat.le_of_ble_eq_true rfl)) dX6_look_101 ⟨Nat.le_of_ble_eq_true rfl, Nat.le_of_ble_eq_true rfl⟩) hS (fun H locs hP hS => ?_)
        obtain ⟨v48, ev48⟩ : ∃ z : Int32, z = v9 + 1 := ⟨_, rfl⟩
        have h := d_let ev48 h
        refine lv_iinc (v := v48) (lv' := [(4, .int v48), (3, .int v3), (0, .ref (dad g p0)), (1, .ref (dad g p1)), (2, .ref (dad g p2))]) S.1 S.2.1 dX6_look_104 hl (k := 0) rfl (by rw [ev48]; rfl) (by decide) rfl (fun ls hl => ?_)
        refine lv_goto (tgt := 30) S.1 S.2.1 dX6_look_107 (by decide) ?_
        obtain rfl := Option.some.inj h
        exact hCL8 _ rfl H locs ls hP hS (lv_sub hl [0, 1, 2, 3, 4] rfl)
  · obtain ⟨m49, rfl⟩ : ∃ z, z = qL8 := ⟨_, rfl⟩
    have h := d_p1 h
    intro H locs ls hP hS hl
    have hP : va_P g.1 vwCl (dws g m49) H := hP
    have hl : lv_has ls 5 [(0, .ref (dad g p0))] := hl
    refine lv_aload_n S.1 S.2.1 dX6_look_110 rfl (lv_at hl 0 rfl) ?_
    refine dgf6_3 S in6 hE hP k0 (S.2.2.2.2 (.fieldLink RX6 29 "DrillField$Recount" "found" "LDrillField$Fault;") (List.mem_of_getElem? (i := 5) rfl)) dX6_look_111 ?_
    obtain ⟨rfl, rfl⟩ := Prod.mk.inj (Option.some.inj h)
    exact dtr S hr hlk hE hP hS dX6_look_114
set_option maxRecDepth 20000 in
theorem ggX10_standAt_X11_isWithin : GoodIn wsX10_standAt wsX11_isWithin := goodIn_r _ [5] (by decide +kernel) (by decide +kernel)
set_option maxRecDepth 20000 in
theorem gX10_standAt_X11_isWithin_n74 : GoodIn wsX10_standAt (wsX11_isWithin) := ggX10_standAt_X11_isWithin
theorem dX10_standAt_0 : decode cX10_standAt 0 = .ok (.iload_n 1, 1) := by decide +kernel
theorem dX10_standAt_1 : decode cX10_standAt 1 = .ok (.iconst 0, 1) := by decide +kernel
theorem dX10_standAt_2 : decode cX10_standAt 2 = .ok (.bipush 64, 2) := by decide +kernel
theorem dX10_standAt_4 : decode cX10_standAt 4 = .ok (.invokestatic 74, 3) := by decide +kernel
theorem dX10_standAt_7 : decode cX10_standAt 7 = .ok (.ifCond .eq 21, 3) := by decide +kernel
theorem dX10_standAt_10 : decode cX10_standAt 10 = .ok (.aload_n 0, 1) := by decide +kernel
theorem dX10_standAt_11 : decode cX10_standAt 11 = .ok (.getfield 11, 3) := by decide +kernel
theorem dX10_standAt_14 : decode cX10_standAt 14 = .ok (.iload_n 1, 1) := by decide +kernel
theorem dX10_standAt_15 : decode cX10_standAt 15 = .ok (.aaload, 1) := by decide +kernel
theorem dX10_standAt_16 : decode cX10_standAt 16 = .ok (.ifnull 12, 3) := by decide +kernel
theorem dX10_standAt_19 : decode cX10_standAt 19 = .ok (.aload_n 0, 1) := by decide +kernel
theorem dX10_standAt_20 : decode cX10_standAt 20 = .ok (.getfield 11, 3) := by decide +kernel
theorem dX10_standAt_23 : decode cX10_standAt 23 = .ok (.iload_n 1, 1) := by decide +kernel
theorem dX10_standAt_24 : decode cX10_standAt 24 = .ok (.aaload, 1) := by decide +kernel
theorem dX10_standAt_25 : decode cX10_standAt 25 = .ok (.goto 7, 3) := by decide +kernel
theorem dX10_standAt_28 : decode cX10_standAt 28 = .ok (.aload_n 0, 1) := by decide +kernel
theorem dX10_standAt_29 : decode cX10_standAt 29 = .ok (.getfield 18, 3) := by decide +kernel
theorem dX10_standAt_32 : decode cX10_standAt 32 = .ok (.areturn, 1) := by decide +kernel
def fX10_standAt (m : dM) (p0 : Nat) (p1 : Int32) : Option Nat := dg (dkg p0 11) ((fX11_isWithin m p1 0 64).bind (fun v2 => if v2 = 0 then some 368 else dg (dIx p1 (dL 172)) (dg (dkg (172 + 1 + 3 * (Int32.toNatClampNeg (p1))) 10) (dg (dIx p1 (dL 172)) (dg (dkg (172 + 1 + 3 * (Int32.toNatClampNeg (p1))) 10) (some (172 + 1 + 3 * (Int32.toNatClampNeg (p1)))))))))
set_option maxHeartbeats 4000000 in
set_option maxRecDepth 100000 in
theorem kX10_standAt (l : Launch) (g : dG) {m : dM} {p0 : Nat} {p1 : Int32} {r0 : Nat} (h : fX10_standAt m p0 p1 = some r0) : dMet l g yX10_standAt wsX10_standAt (dRm 1 22) [.ref (dad g p0), .int p1] m (dQR g r0 m) := by
  refine dof (cc := cX10_standAt) (maxL := 2) (ret := (some (.object "DrillField$Spots"))) _ (plainFor_of_name (by decide)) rfl (Nat.le_of_ble_eq_true rfl) ?_
  intro p e s mth below meth c S hr hlk hE H ls hP hS hl
  have S : CallFix p mth c cX10_standAt 2 s _ wsX10_standAt RX10 := S
  have hl : lv_has ls 2 [(0, .ref (dad g p0)), (1, .int p1)] := hl
  obtain ⟨locs, hlocs⟩ : ∃ z : List Loc, z = [] := ⟨_, rfl⟩
  rw [← hlocs] at hS ⊢
  have in10 : ∀ w ∈ wsX100, w ∈ wsX10_standAt := by decide +kernel
  unfold fX10_standAt at h
  obtain ⟨k0, h⟩ := d_g h
  have k0 := d_k k0
  refine lv_iload_n S.1 S.2.1 dX10_standAt_0 rfl (lv_at hl 1 rfl) ?_
  refine lv_iconst (v := 0) S.1 S.2.1 dX10_standAt_1 (by decide) ?_
  refine lv_bipush (v := 64) S.1 S.2.1 dX10_standAt_2 (by decide) ?_
  obtain ⟨v2, hc1, h⟩ := d_b h
  refine dri (va_runSN (As := [.int p1, .int 0, .int 64]) (rest := []) S (kX11_isWithin l g hc1) ⟨va_cnB 3 S.2.2.2.2 gX10_standAt_X11_isWithin_n74 rfl rfl rfl (dnq_RX10_74 hE) (S.2.2.2.2 (.initialized RX11) (List.mem_of_getElem? (i := 4) rfl)) ynX11_isWithin ⟨Nat.le_of_ble_eq_true rfl, Nat.le_of_ble_eq_true rfl⟩, S.2.2.2.2 (.static yX11_isWithin) (List.mem_of_getElem? (i := 3) rfl), trivial⟩ (dpS hE hP hS) rfl rfl hl.1 rfl (lv_room (Nat.le_of_ble_eq_true rfl)) dX10_standAt_4 ⟨Nat.le_of_ble_eq_true rfl, Nat.le_of_ble_eq_true rfl⟩) hS (fun H locs hP hS => ?_)
  refine lv_if_eq (tgt := 28) S.1 S.2.1 dX10_standAt_7 (by decide) (fun cq => ?_) (fun cq => ?_)
  · have h := d_t cq h
    refine lv_aload_n S.1 S.2.1 dX10_standAt_28 rfl (lv_at hl 0 rfl) ?_
    refine dgf10_1 S in10 hE hP k0 (S.2.2.2.2 (.fieldLink RX10 18 "DrillField$Watch" "spare" "LDrillField$Spots;") (List.mem_of_getElem? (i := 2) rfl)) dX10_standAt_29 ?_
    obtain rfl := Option.some.inj h
    exact dtr S hr hlk hE hP hS dX10_standAt_32
  · have h := d_f cq h
    refine lv_aload_n S.1 S.2.1 dX10_standAt_10 rfl (lv_at hl 0 rfl) ?_
    refine dgf10_0 S in10 hE hP k0 (S.2.2.2.2 (.fieldLink RX10 11 "DrillField$Watch" "stands" "[LDrillField$Spots;") (List.mem_of_getElem? (i := 1) rfl)) dX10_standAt_11 ?_
    refine lv_iload_n S.1 S.2.1 dX10_standAt_14 rfl (lv_at hl 1 rfl) ?_
    obtain ⟨hi, h⟩ := d_g h
    obtain ⟨hk3, h⟩ := d_g h
    have hk3 := d_k hk3
    refine d_aald (r := dad g (172 + 1 + 3 * (Int32.toNatClampNeg (p1)))) (ty := .object "DrillField$Spots") 4 S hE hP (dat24 dk_172) rfl rfl hi (if_pos (dIx_lt hi)) dX10_standAt_15 ?_
    refine lv_ifnull S.1 S.2.1 dX10_standAt_16 ?_
    refine lv_aload_n S.1 S.2.1 dX10_standAt_19 rfl (lv_at hl 0 rfl) ?_
    refine dgf10_0 S in10 hE hP k0 (S.2.2.2.2 (.fieldLink RX10 11 "DrillField$Watch" "stands" "[LDrillField$Spots;") (List.mem_of_getElem? (i := 1) rfl)) dX10_standAt_20 ?_
    refine lv_iload_n S.1 S.2.1 dX10_standAt_23 rfl (lv_at hl 1 rfl) ?_
    obtain ⟨hi, h⟩ := d_g h
    obtain ⟨hk4, h⟩ := d_g h
    have hk4 := d_k hk4
    refine d_aald (r := dad g (172 + 1 + 3 * (Int32.toNatClampNeg (p1)))) (ty := .object "DrillField$Spots") 4 S hE hP (dat24 dk_172) rfl rfl hi (if_pos (dIx_lt hi)) dX10_standAt_24 ?_
    refine lv_goto (tgt := 32) S.1 S.2.1 dX10_standAt_25 (by decide) ?_
    obtain rfl := Option.some.inj h
    exact dtr S hr hlk hE hP hS dX10_standAt_32
set_option maxRecDepth 20000 in
theorem ggX10_tell_X2_tell : GoodIn wsX10_tell wsX2_tell := goodIn_r _ [7, 8, 9, 10, 11, 16, 17, 18, 19] (by decide +kernel) (by decide +kernel)
set_option maxRecDepth 20000 in
theorem gX10_tell_X2_tell : GoodIn wsX10_tell (wsV RX10 96 RX2 yX2_tell wsX2_tell) := goodIn_app (goodIn_of _ (by decide +kernel)) ggX10_tell_X2_tell
theorem dX10_tell_0 : decode cX10_tell 0 = .ok (.aload_n 0, 1) := by decide +kernel
theorem dX10_tell_1 : decode cX10_tell 1 = .ok (.getfield 25, 3) := by decide +kernel
theorem dX10_tell_4 : decode cX10_tell 4 = .ok (.iload_n 1, 1) := by decide +kernel
theorem dX10_tell_5 : decode cX10_tell 5 = .ok (.iload_n 2, 1) := by decide +kernel
theorem dX10_tell_6 : decode cX10_tell 6 = .ok (.iload_n 3, 1) := by decide +kernel
theorem dX10_tell_7 : decode cX10_tell 7 = .ok (.iload 4, 2) := by decide +kernel
theorem dX10_tell_9 : decode cX10_tell 9 = .ok (.invokevirtual 96, 3) := by decide +kernel
theorem dX10_tell_12 : decode cX10_tell 12 = .ok (.aload_n 0, 1) := by decide +kernel
theorem dX10_tell_13 : decode cX10_tell 13 = .ok (.iload_n 1, 1) := by decide +kernel
theorem dX10_tell_14 : decode cX10_tell 14 = .ok (.putfield 43, 3) := by decide +kernel
theorem dX10_tell_17 : decode cX10_tell 17 = .ok (.return_, 1) := by decide +kernel
def fX10_tell (m : dM) (p0 : Nat) (p1 : Int32) (p2 : Int32) (p3 : Int32) (p4 : Int32) : Option dM := dg (dkg p0 11) ((fX2_tell m 371 p1 p2 p3 p4).bind (fun m2 => dlet (d1 m2 p0 3 p1) (fun m3 => some m3)))
set_option maxHeartbeats 4000000 in
set_option maxRecDepth 100000 in
theorem kX10_tell (l : Launch) (g : dG) {m : dM} {p0 : Nat} {p1 : Int32} {p2 : Int32} {p3 : Int32} {p4 : Int32} {m0 : dM} (h : fX10_tell m p0 p1 p2 p3 p4 = some m0) : dMet l g yX10_tell wsX10_tell (dRm 1 24) [.ref (dad g p0), .int p1, .int p2, .int p3, .int p4] m (dQV g m0) := by
  refine dof (cc := cX10_tell) (maxL := 5) (ret := none) _ (plainFor_of_name (by decide)) rfl (Nat.le_of_ble_eq_true rfl) ?_
  intro p e s mth below meth c S hr hlk hE H ls hP hS hl
  have S : CallFix p mth c cX10_tell 5 s _ wsX10_tell RX10 := S
  have hl : lv_has ls 5 [(0, .ref (dad g p0)), (1, .int p1), (2, .int p2), (3, .int p3), (4, .int p4)] := hl
  obtain ⟨locs, hlocs⟩ : ∃ z : List Loc, z = [] := ⟨_, rfl⟩
  rw [← hlocs] at hS ⊢
  have in10 : ∀ w ∈ wsX100, w ∈ wsX10_tell := by decide +kernel
  unfold fX10_tell at h
  obtain ⟨k0, h⟩ := d_g h
  have k0 := d_k k0
  refine lv_aload_n S.1 S.2.1 dX10_tell_0 rfl (lv_at hl 0 rfl) ?_
  refine dgf10_2 S in10 hE hP k0 (S.2.2.2.2 (.fieldLink RX10 25 "DrillField$Watch" "found" "LDrillField$Fault;") (List.mem_of_getElem? (i := 1) rfl)) dX10_tell_1 ?_
  refine lv_iload_n S.1 S.2.1 dX10_tell_4 rfl (lv_at hl 1 rfl) ?_
  refine lv_iload_n S.1 S.2.1 dX10_tell_5 rfl (lv_at hl 2 rfl) ?_
  refine lv_iload_n S.1 S.2.1 dX10_tell_6 rfl (lv_at hl 3 rfl) ?_
  refine lv_iload S.1 S.2.1 dX10_tell_7 (lv_at hl 4 rfl) ?_
  obtain ⟨m2, hc1, h⟩ := d_b h
  refine drv (va_runV (As := [.int p1, .int p2, .int p3, .int p4]) (rest := []) S (kX2_tell l g hc1) (cwV 4 S.2.2.2.2 gX10_tell_X2_tell rfl rfl rfl ynX2_tell ⟨Nat.le_of_ble_eq_true rfl, Nat.le_of_ble_eq_true rfl⟩) (dpV hE hP hS (ci := 2) rfl (dat3 dk_371)) rfl rfl hl.1 rfl (lv_room (Nat.le_of_ble_eq_true rfl)) dX10_tell_9 ⟨Nat.le_of_ble_eq_true rfl, Nat.le_of_ble_eq_true rfl⟩) hS (fun H locs hP hS => ?_)
  refine lv_aload_n S.1 S.2.1 dX10_tell_12 rfl (lv_at hl 0 rfl) ?_
  refine lv_iload_n S.1 S.2.1 dX10_tell_13 rfl (lv_at hl 1 rfl) ?_
  refine dpf10_3 S in10 hE hP hS k0 (S.2.2.2.2 (.fieldLink RX10 43 "DrillField$Watch" "openEnd" "I") (List.mem_of_getElem? (i := 2) rfl)) dX10_tell_14 (fun H locs hP hS => ?_)
  obtain ⟨m3, em3⟩ : ∃ z : dM, z = d1 m2 p0 3 p1 := ⟨_, rfl⟩
  have h := d_let em3 h
  rw [← em3] at hP
  obtain rfl := Option.some.inj h
  exact dtv S hr hlk hE hP hS dX10_tell_17
set_option maxRecDepth 20000 in
theorem ggX10_seekStep_X10_standAt : GoodIn wsX10_seekStep wsX10_standAt := goodIn_r _ [6, 7, 8, 9, 10, 11, 37, 38, 39, 40] (by decide +kernel) (by decide +kernel)
set_option maxRecDepth 20000 in
theorem gX10_seekStep_X10_standAt : GoodIn wsX10_seekStep (wsV RX10 47 RX10 yX10_standAt wsX10_standAt) := goodIn_app (goodIn_of _ (by decide +kernel)) ggX10_seekStep_X10_standAt
set_option maxRecDepth 20000 in
theorem ggX10_seekStep_X9_squareTo : GoodIn wsX10_seekStep wsX9_squareTo := goodIn_r _ [16, 17, 18, 19, 10, 20, 21, 22, 41, 42] (by decide +kernel) (by decide +kernel)
set_option maxRecDepth 20000 in
theorem gX10_seekStep_X9_squareTo : GoodIn wsX10_seekStep (wsV RX10 78 RX9 yX9_squareTo wsX9_squareTo) := goodIn_app (goodIn_of _ (by decide +kernel)) ggX10_seekStep_X9_squareTo
set_option maxRecDepth 20000 in
theorem ggX10_seekStep_X10_tell : GoodIn wsX10_seekStep wsX10_tell := goodIn_r _ [26, 27, 1, 28, 29, 30, 31, 32, 33, 34, 35, 36, 37, 38, 39, 40, 43, 44, 45, 46] (by decide +kernel) (by decide +kernel)
set_option maxRecDepth 20000 in
theorem gX10_seekStep_X10_tell : GoodIn wsX10_seekStep (wsV RX10 82 RX10 yX10_tell wsX10_tell) := goodIn_app (goodIn_of _ (by decide +kernel)) ggX10_seekStep_X10_tell
theorem dX10_seekStep_0 : decode cX10_seekStep 0 = .ok (.iconst 1, 1) := by decide +kernel
theorem dX10_seekStep_1 : decode cX10_seekStep 1 = .ok (.istore_n 3, 1) := by decide +kernel
theorem dX10_seekStep_2 : decode cX10_seekStep 2 = .ok (.iload_n 3, 1) := by decide +kernel
theorem dX10_seekStep_3 : decode cX10_seekStep 3 = .ok (.aload_n 0, 1) := by decide +kernel
theorem dX10_seekStep_4 : decode cX10_seekStep 4 = .ok (.getfield 43, 3) := by decide +kernel
theorem dX10_seekStep_7 : decode cX10_seekStep 7 = .ok (.if_icmp .ge 39, 3) := by decide +kernel
theorem dX10_seekStep_10 : decode cX10_seekStep 10 = .ok (.aload_n 0, 1) := by decide +kernel
theorem dX10_seekStep_11 : decode cX10_seekStep 11 = .ok (.iload_n 3, 1) := by decide +kernel
theorem dX10_seekStep_12 : decode cX10_seekStep 12 = .ok (.invokevirtual 47, 3) := by decide +kernel
theorem dX10_seekStep_15 : decode cX10_seekStep 15 = .ok (.iload_n 1, 1) := by decide +kernel
theorem dX10_seekStep_16 : decode cX10_seekStep 16 = .ok (.aload_n 0, 1) := by decide +kernel
theorem dX10_seekStep_17 : decode cX10_seekStep 17 = .ok (.iload_n 3, 1) := by decide +kernel
theorem dX10_seekStep_18 : decode cX10_seekStep 18 = .ok (.iconst 1, 1) := by decide +kernel
theorem dX10_seekStep_19 : decode cX10_seekStep 19 = .ok (.isub, 1) := by decide +kernel
theorem dX10_seekStep_20 : decode cX10_seekStep 20 = .ok (.invokevirtual 47, 3) := by decide +kernel
theorem dX10_seekStep_23 : decode cX10_seekStep 23 = .ok (.iload_n 1, 1) := by decide +kernel
theorem dX10_seekStep_24 : decode cX10_seekStep 24 = .ok (.invokevirtual 78, 3) := by decide +kernel
theorem dX10_seekStep_27 : decode cX10_seekStep 27 = .ok (.iload_n 2, 1) := by decide +kernel
theorem dX10_seekStep_28 : decode cX10_seekStep 28 = .ok (.if_icmp .le 12, 3) := by decide +kernel
theorem dX10_seekStep_31 : decode cX10_seekStep 31 = .ok (.aload_n 0, 1) := by decide +kernel
theorem dX10_seekStep_32 : decode cX10_seekStep 32 = .ok (.iload_n 3, 1) := by decide +kernel
theorem dX10_seekStep_33 : decode cX10_seekStep 33 = .ok (.iconst 0, 1) := by decide +kernel
theorem dX10_seekStep_34 : decode cX10_seekStep 34 = .ok (.iload_n 1, 1) := by decide +kernel
theorem dX10_seekStep_35 : decode cX10_seekStep 35 = .ok (.iconst (-1), 1) := by decide +kernel
theorem dX10_seekStep_36 : decode cX10_seekStep 36 = .ok (.invokevirtual 82, 3) := by decide +kernel
theorem dX10_seekStep_39 : decode cX10_seekStep 39 = .ok (.return_, 1) := by decide +kernel
theorem dX10_seekStep_40 : decode cX10_seekStep 40 = .ok (.iinc 3 1, 3) := by decide +kernel
theorem dX10_seekStep_43 : decode cX10_seekStep 43 = .ok (.goto (-41), 3) := by decide +kernel
theorem dX10_seekStep_46 : decode cX10_seekStep 46 = .ok (.return_, 1) := by decide +kernel
def fX10_seekStep_l2 (m : dM) (p0 : Nat) (p1 : Int32) (p2 : Int32) (v2 : Int32) : Option (Int32 ⊕ (Int32 ⊕ Unit)) := if (m.1 p0 3) ≤ v2 then some (.inr (.inr ())) else (fX10_standAt m p0 v2).bind (fun v13 => dg (dkg v13 10) ((fX10_standAt m p0 (v2 - 1)).bind (fun v16 => dg (dkg v16 10) ((fX9_squareTo m v13 p1 v16 p1).bind (fun v19 => if v19 ≤ p2 then dlet (v2 + 1 : Int32) (fun v20 => some (.inl v20)) else some (.inr (.inl v2)))))))
def fX10_seekStep (m : dM) (p0 : Nat) (p1 : Int32) (p2 : Int32) : Option dM := dg (dkg p0 11) ((dlp (fun q => (fun v2 => fX10_seekStep_l2 m p0 p1 p2 v2) q) dFl 1).bind (fun q => dS q (fun q => dP1 q (fun v21 => (fX10_tell m p0 v21 0 p1 (-1)).bind (fun m23 => some m23))) (fun _ => some m)))
set_option maxHeartbeats 4000000 in
set_option maxRecDepth 100000 in
theorem kX10_seekStep (l : Launch) (g : dG) {m : dM} {p0 : Nat} {p1 : Int32} {p2 : Int32} {m0 : dM} (h : fX10_seekStep m p0 p1 p2 = some m0) : dMet l g yX10_seekStep wsX10_seekStep (dRm 2 48) [.ref (dad g p0), .int p1, .int p2] m (dQV g m0) := by
  refine dof (cc := cX10_seekStep) (maxL := 4) (ret := none) _ (plainFor_of_name (by decide)) rfl (Nat.le_of_ble_eq_true rfl) ?_
  intro p e s mth below meth c S hr hlk hE H ls hP hS hl
  have S : CallFix p mth c cX10_seekStep 4 s _ wsX10_seekStep RX10 := S
  have hl : lv_has ls 4 [(0, .ref (dad g p0)), (1, .int p1), (2, .int p2)] := hl
  obtain ⟨locs, hlocs⟩ : ∃ z : List Loc, z = [] := ⟨_, rfl⟩
  rw [← hlocs] at hS ⊢
  have in10 : ∀ w ∈ wsX100, w ∈ wsX10_seekStep := by decide +kernel
  unfold fX10_seekStep at h
  obtain ⟨k0, h⟩ := d_g h
  have k0 := d_k k0
  refine lv_iconst (v := 1) S.1 S.2.1 dX10_seekStep_0 (by decide) ?_
  refine lv_istore_n (lv' := [(3, .int 1), (0, .ref (dad g p0)), (1, .int p1), (2, .int p2)]) S.1 S.2.1 dX10_seekStep_1 rfl hl (by decide) rfl (fun ls hl => ?_)
  obtain ⟨qL1, hqL1, h⟩ := d_b h
  refine d_lp (Hd := fun q => (fun (v2 : _) => ∀ (H : Heap) (locs : List Loc) (ls : Array Slot), va_P g.1 vwCl (dws g m) H → va_S (dA g) s.heap H locs → lv_has ls 4 [(3, .int v2), (0, .ref (dad g p0)), (1, .int p1), (2, .int p2)] → W p l e (headSpec wsX10_seekStep (dRm 2 48)).room s mth (([.ref (dad g p0), .int p1, .int p2] : List Value).toArray) below meth c H locs 0 0 (MQ below (dQV g m0) (([.ref (dad g p0), .int p1, .int p2] : List Value).toArray) s 0 0 (dA g)) (F0 mth 2 ls [])) q) (K := fun q => match q with | .inl q => (fun (v21 : _) => ∀ (H : Heap) (locs : List Loc) (ls : Array Slot), va_P g.1 vwCl (dws g m) H → va_S (dA g) s.heap H locs → lv_has ls 4 [(0, .ref (dad g p0)), (1, .int p1), (3, .int v21)] → W p l e (headSpec wsX10_seekStep (dRm 2 48)).room s mth (([.ref (dad g p0), .int p1, .int p2] : List Value).toArray) below meth c H locs 0 0 (MQ below (dQV g m0) (([.ref (dad g p0), .int p1, .int p2] : List Value).toArray) s 0 0 (dA g)) (F0 mth 31 ls [])) q | .inr q => ∀ (H : Heap) (locs : List Loc) (ls : Array Slot), va_P g.1 vwCl (dws g m) H → va_S (dA g) s.heap H locs → lv_has ls 4 [] → W p l e (headSpec wsX10_seekStep (dRm 2 48)).room s mth (([.ref (dad g p0), .int p1, .int p2] : List Value).toArray) below meth c H locs 0 0 (MQ below (dQV g m0) (([.ref (dad g p0), .int p1, .int p2] : List Value).toArray) s 0 0 (dA g)) (F0 mth 46 ls [])) ?_ dFl _ qL1 hqL1 ?_ H locs ls hP hS (lv_sub hl [0, 1, 2, 3] rfl)
  · intro q o h hCL1 hEL1
    obtain ⟨v2, rfl⟩ : ∃ z, z = q := ⟨_, rfl⟩
    have h : fX10_seekStep_l2 m p0 p1 p2 v2 = some o := h
    intro H locs ls hP hS hl
    have hP : va_P g.1 vwCl (dws g m) H := hP
    have hl : lv_has ls 4 [(3, .int v2), (0, .ref (dad g p0)), (1, .int p1), (2, .int p2)] := hl
    unfold fX10_seekStep_l2 at h
    refine lv_iload_n S.1 S.2.1 dX10_seekStep_2 rfl (lv_at hl 0 rfl) ?_
    refine lv_aload_n S.1 S.2.1 dX10_seekStep_3 rfl (lv_at hl 1 rfl) ?_
    refine dgf10_3 S in10 hE hP k0 (S.2.2.2.2 (.fieldLink RX10 43 "DrillField$Watch" "openEnd" "I") (List.mem_of_getElem? (i := 1) rfl)) dX10_seekStep_4 ?_
    refine lv_icmp_ge (tgt := 46) S.1 S.2.1 dX10_seekStep_7 (by decide) (fun cq => ?_) (fun cq => ?_)
    · have h := d_t cq h
      obtain rfl := Option.some.inj h
      exact hEL1 _ rfl H locs ls hP hS (lv_sub hl [] rfl)
    · have h := d_f cq h
      refine lv_aload_n S.1 S.2.1 dX10_seekStep_10 rfl (lv_at hl 1 rfl) ?_
      refine lv_iload_n S.1 S.2.1 dX10_seekStep_11 rfl (lv_at hl 0 rfl) ?_
      obtain ⟨v13, hc12, h⟩ := d_b h
      obtain ⟨hk14, h⟩ := d_g h
      have hk14 := d_k hk14
      refine drr (va_runV (As := [.int v2]) (rest := []) S (kX10_standAt l g hc12) (cwV 1 S.2.2.2.2 gX10_seekStep_X10_standAt rfl rfl rfl ynX10_standAt ⟨Nat.le_of_ble_eq_true rfl, Nat.le_of_ble_eq_true rfl⟩) (dpV hE hP hS (ci := 10) rfl (dat11 k0)) rfl rfl hl.1 rfl (lv_room (Nat.le_of_ble_eq_true rfl)) dX10_seekStep_12 ⟨Nat.le_of_ble_eq_true rfl, Nat.le_of_ble_eq_true rfl⟩) hS (fun H locs hP hS => ?_)
      refine lv_iload_n S.1 S.2.1 dX10_seekStep_15 rfl (lv_at hl 2 rfl) ?_
      refine lv_aload_n S.1 S.2.1 dX10_seekStep_16 rfl (lv_at hl 1 rfl) ?_
      refine lv_iload_n S.1 S.2.1 dX10_seekStep_17 rfl (lv_at hl 0 rfl) ?_
      refine lv_iconst (v := 1) S.1 S.2.1 dX10_seekStep_18 (by decide) ?_
      refine lv_isub S.1 S.2.1 dX10_seekStep_19 ?_
      obtain ⟨v16, hc15, h⟩ := d_b h
      obtain ⟨hk17, h⟩ := d_g h
      have hk17 := d_k hk17
      refine drr (va_runV (As := [.int (v2 - 1)]) (rest := [.int p1, .ref (dad g v13)]) S (kX10_standAt l g hc15) (cwV 1 S.2.2.2.2 gX10_seekStep_X10_standAt rfl rfl rfl ynX10_standAt ⟨Nat.le_of_ble_eq_true rfl, Nat.le_of_ble_eq_true rfl⟩) (dpV hE hP hS (ci := 10) rfl (dat11 k0)) rfl rfl hl.1 rfl (lv_room (Nat.le_of_ble_eq_true rfl)) dX10_seekStep_20 ⟨Nat.le_of_ble_eq_true rfl, Nat.le_of_ble_eq_true rfl⟩) hS (fun H locs hP hS => ?_)
      refine lv_iload_n S.1 S.2.1 dX10_seekStep_23 rfl (lv_at hl 2 rfl) ?_
      obtain ⟨v19, hc18, h⟩ := d_b h
      refine dri (va_runV (As := [.int p1, .ref (dad g v16), .int p1]) (rest := []) S (kX9_squareTo l g hc18) (cwV 3 S.2.2.2.2 gX10_seekStep_X9_squareTo rfl rfl rfl ynX9_squareTo ⟨Nat.le_of_ble_eq_true rfl, Nat.le_of_ble_eq_true rfl⟩) (dpV hE hP hS (ci := 9) rfl (dat10 hk14)) rfl rfl hl.1 rfl (lv_room (Nat.le_of_ble_eq_true rfl)) dX10_seekStep_24 ⟨Nat.le_of_ble_eq_true rfl, Nat.le_of_ble_eq_true rfl⟩) hS (fun H locs hP hS => ?_)
      refine lv_iload_n S.1 S.2.1 dX10_seekStep_27 rfl (lv_at hl 3 rfl) ?_
      refine lv_icmp_le (tgt := 40) S.1 S.2.1 dX10_seekStep_28 (by decide) (fun cq => ?_) (fun cq => ?_)
      · have h := d_t cq h
        obtain ⟨v20, ev20⟩ : ∃ z : Int32, z = v2 + 1 := ⟨_, rfl⟩
        have h := d_let ev20 h
        refine lv_iinc (v := v20) (lv' := [(3, .int v20), (0, .ref (dad g p0)), (1, .int p1), (2, .int p2)]) S.1 S.2.1 dX10_seekStep_40 hl (k := 0) rfl (by rw [ev20]; rfl) (by decide) rfl (fun ls hl => ?_)
        refine lv_goto (tgt := 2) S.1 S.2.1 dX10_seekStep_43 (by decide) ?_
        obtain rfl := Option.some.inj h
        exact hCL1 _ rfl H locs ls hP hS (lv_sub hl [0, 1, 2, 3] rfl)
      · have h := d_f cq h
        obtain rfl := Option.some.inj h
        exact hEL1 _ rfl H locs ls hP hS (lv_sub hl [1, 2, 0] rfl)
  · rcases qL1 with qL1a | qL1b
    · have h := d_s1 h
      obtain ⟨v21, rfl⟩ : ∃ z, z = qL1a := ⟨_, rfl⟩
      have h := d_p1 h
      intro H locs ls hP hS hl
      have hP : va_P g.1 vwCl (dws g m) H := hP
      have hl : lv_has ls 4 [(0, .ref (dad g p0)), (1, .int p1), (3, .int v21)] := hl
      refine lv_aload_n S.1 S.2.1 dX10_seekStep_31 rfl (lv_at hl 0 rfl) ?_
      refine lv_iload_n S.1 S.2.1 dX10_seekStep_32 rfl (lv_at hl 2 rfl) ?_
      refine lv_iconst (v := 0) S.1 S.2.1 dX10_seekStep_33 (by decide) ?_
      refine lv_iload_n S.1 S.2.1 dX10_seekStep_34 rfl (lv_at hl 1 rfl) ?_
      refine lv_iconst (v := (-1)) S.1 S.2.1 dX10_seekStep_35 (by decide) ?_
      obtain ⟨m23, hc22, h⟩ := d_b h
      refine drv (va_runV (As := [.int v21, .int 0, .int p1, .int (-1)]) (rest := []) S (kX10_tell l g hc22) (cwV 4 S.2.2.2.2 gX10_seekStep_X10_tell rfl rfl rfl ynX10_tell ⟨Nat.le_of_ble_eq_true rfl, Nat.le_of_ble_eq_true rfl⟩) (dpV hE hP hS (ci := 10) rfl (dat11 k0)) rfl rfl hl.1 rfl (lv_room (Nat.le_of_ble_eq_true rfl)) dX10_seekStep_36 ⟨Nat.le_of_ble_eq_true rfl, Nat.le_of_ble_eq_true rfl⟩) hS (fun H locs hP hS => ?_)
      obtain rfl := Option.some.inj h
      exact dtv S hr hlk hE hP hS dX10_seekStep_39
    · have h := d_s2 h
      intro H locs ls hP hS hl
      have hP : va_P g.1 vwCl (dws g m) H := hP
      have hl : lv_has ls 4 [] := hl
      obtain rfl := Option.some.inj h
      exact dtv S hr hlk hE hP hS dX10_seekStep_46
set_option maxRecDepth 20000 in
theorem ggX10_seekNear_X10_standAt : GoodIn wsX10_seekNear wsX10_standAt := goodIn_r _ [6, 7, 8, 9, 10, 11, 37, 38, 39, 40] (by decide +kernel) (by decide +kernel)
set_option maxRecDepth 20000 in
theorem gX10_seekNear_X10_standAt : GoodIn wsX10_seekNear (wsV RX10 47 RX10 yX10_standAt wsX10_standAt) := goodIn_app (goodIn_of _ (by decide +kernel)) ggX10_seekNear_X10_standAt
set_option maxRecDepth 20000 in
theorem ggX10_seekNear_X9_squareTo : GoodIn wsX10_seekNear wsX9_squareTo := goodIn_r _ [16, 17, 18, 19, 10, 20, 21, 22, 41, 42] (by decide +kernel) (by decide +kernel)
set_option maxRecDepth 20000 in
theorem gX10_seekNear_X9_squareTo : GoodIn wsX10_seekNear (wsV RX10 78 RX9 yX9_squareTo wsX9_squareTo) := goodIn_app (goodIn_of _ (by decide +kernel)) ggX10_seekNear_X9_squareTo
set_option maxRecDepth 20000 in
theorem ggX10_seekNear_X10_tell : GoodIn wsX10_seekNear wsX10_tell := goodIn_r _ [26, 27, 1, 28, 29, 30, 31, 32, 33, 34, 35, 36, 37, 38, 39, 40, 43, 44, 45, 46] (by decide +kernel) (by decide +kernel)
set_option maxRecDepth 20000 in
theorem gX10_seekNear_X10_tell : GoodIn wsX10_seekNear (wsV RX10 82 RX10 yX10_tell wsX10_tell) := goodIn_app (goodIn_of _ (by decide +kernel)) ggX10_seekNear_X10_tell
theorem dX10_seekNear_0 : decode cX10_seekNear 0 = .ok (.iconst 1, 1) := by decide +kernel
theorem dX10_seekNear_1 : decode cX10_seekNear 1 = .ok (.istore_n 3, 1) := by decide +kernel
theorem dX10_seekNear_2 : decode cX10_seekNear 2 = .ok (.iload_n 3, 1) := by decide +kernel
theorem dX10_seekNear_3 : decode cX10_seekNear 3 = .ok (.aload_n 0, 1) := by decide +kernel
theorem dX10_seekNear_4 : decode cX10_seekNear 4 = .ok (.getfield 43, 3) := by decide +kernel
theorem dX10_seekNear_7 : decode cX10_seekNear 7 = .ok (.if_icmp .ge 39, 3) := by decide +kernel
theorem dX10_seekNear_10 : decode cX10_seekNear 10 = .ok (.aload_n 0, 1) := by decide +kernel
theorem dX10_seekNear_11 : decode cX10_seekNear 11 = .ok (.iload_n 3, 1) := by decide +kernel
theorem dX10_seekNear_12 : decode cX10_seekNear 12 = .ok (.invokevirtual 47, 3) := by decide +kernel
theorem dX10_seekNear_15 : decode cX10_seekNear 15 = .ok (.astore 4, 2) := by decide +kernel
theorem dX10_seekNear_17 : decode cX10_seekNear 17 = .ok (.aload 4, 2) := by decide +kernel
theorem dX10_seekNear_19 : decode cX10_seekNear 19 = .ok (.iload_n 1, 1) := by decide +kernel
theorem dX10_seekNear_20 : decode cX10_seekNear 20 = .ok (.aload 4, 2) := by decide +kernel
theorem dX10_seekNear_22 : decode cX10_seekNear 22 = .ok (.iload_n 2, 1) := by decide +kernel
theorem dX10_seekNear_23 : decode cX10_seekNear 23 = .ok (.invokevirtual 78, 3) := by decide +kernel
theorem dX10_seekNear_26 : decode cX10_seekNear 26 = .ok (.bipush 100, 2) := by decide +kernel
theorem dX10_seekNear_28 : decode cX10_seekNear 28 = .ok (.if_icmp .ge 12, 3) := by decide +kernel
theorem dX10_seekNear_31 : decode cX10_seekNear 31 = .ok (.aload_n 0, 1) := by decide +kernel
theorem dX10_seekNear_32 : decode cX10_seekNear 32 = .ok (.iload_n 3, 1) := by decide +kernel
theorem dX10_seekNear_33 : decode cX10_seekNear 33 = .ok (.iconst 1, 1) := by decide +kernel
theorem dX10_seekNear_34 : decode cX10_seekNear 34 = .ok (.iload_n 1, 1) := by decide +kernel
theorem dX10_seekNear_35 : decode cX10_seekNear 35 = .ok (.iload_n 2, 1) := by decide +kernel
theorem dX10_seekNear_36 : decode cX10_seekNear 36 = .ok (.invokevirtual 82, 3) := by decide +kernel
theorem dX10_seekNear_39 : decode cX10_seekNear 39 = .ok (.return_, 1) := by decide +kernel
theorem dX10_seekNear_40 : decode cX10_seekNear 40 = .ok (.iinc 3 1, 3) := by decide +kernel
theorem dX10_seekNear_43 : decode cX10_seekNear 43 = .ok (.goto (-41), 3) := by decide +kernel
theorem dX10_seekNear_46 : decode cX10_seekNear 46 = .ok (.return_, 1) := by decide +kernel
def fX10_seekNear_l2 (m : dM) (p0 : Nat) (p1 : Int32) (p2 : Int32) (v2 : Int32) : Option (Int32 ⊕ (Int32 ⊕ Unit)) := if (m.1 p0 3) ≤ v2 then some (.inr (.inr ())) else (fX10_standAt m p0 v2).bind (fun v10 => dg (dkg v10 10) ((fX9_squareTo m v10 p1 v10 p2).bind (fun v13 => if 100 ≤ v13 then dlet (v2 + 1 : Int32) (fun v14 => some (.inl v14)) else some (.inr (.inl v2)))))
def fX10_seekNear (m : dM) (p0 : Nat) (p1 : Int32) (p2 : Int32) : Option dM := dg (dkg p0 11) ((dlp (fun q => (fun v2 => fX10_seekNear_l2 m p0 p1 p2 v2) q) dFl 1).bind (fun q => dS q (fun q => dP1 q (fun v15 => (fX10_tell m p0 v15 1 p1 p2).bind (fun m17 => some m17))) (fun _ => some m)))
set_option maxHeartbeats 4000000 in
set_option maxRecDepth 100000 in
theorem kX10_seekNear (l : Launch) (g : dG) {m : dM} {p0 : Nat} {p1 : Int32} {p2 : Int32} {m0 : dM} (h : fX10_seekNear m p0 p1 p2 = some m0) : dMet l g yX10_seekNear wsX10_seekNear (dRm 2 48) [.ref (dad g p0), .int p1, .int p2] m (dQV g m0) := by
  refine dof (cc := cX10_seekNear) (maxL := 5) (ret := none) _ (plainFor_of_name (by decide)) rfl (Nat.le_of_ble_eq_true rfl) ?_
  intro p e s mth below meth c S hr hlk hE H ls hP hS hl
  have S : CallFix p mth c cX10_seekNear 5 s _ wsX10_seekNear RX10 := S
  have hl : lv_has ls 5 [(0, .ref (dad g p0)), (1, .int p1), (2, .int p2)] := hl
  obtain ⟨locs, hlocs⟩ : ∃ z : List Loc, z = [] := ⟨_, rfl⟩
  rw [← hlocs] at hS ⊢
  have in10 : ∀ w ∈ wsX100, w ∈ wsX10_seekNear := by decide +kernel
  unfold fX10_seekNear at h
  obtain ⟨k0, h⟩ := d_g h
  have k0 := d_k k0
  refine lv_iconst (v := 1) S.1 S.2.1 dX10_seekNear_0 (by decide) ?_
  refine lv_istore_n (lv' := [(3, .int 1), (0, .ref (dad g p0)), (1, .int p1), (2, .int p2)]) S.1 S.2.1 dX10_seekNear_1 rfl hl (by decide) rfl (fun ls hl => ?_)
  obtain ⟨qL1, hqL1, h⟩ := d_b h
  refine d_lp (Hd := fun q => (fun (v2 : _) => ∀ (H : Heap) (locs : List Loc) (ls : Array Slot), va_P g.1 vwCl (dws g m) H → va_S (dA g) s.heap H locs → lv_has ls 5 [(3, .int v2), (0, .ref (dad g p0)), (1, .int p1), (2, .int p2)] → W p l e (headSpec wsX10_seekNear (dRm 2 48)).room s mth (([.ref (dad g p0), .int p1, .int p2] : List Value).toArray) below meth c H locs 0 0 (MQ below (dQV g m0) (([.ref (dad g p0), .int p1, .int p2] : List Value).toArray) s 0 0 (dA g)) (F0 mth 2 ls [])) q) (K := fun q => match q with | .inl q => (fun (v15 : _) => ∀ (H : Heap) (locs : List Loc) (ls : Array Slot), va_P g.1 vwCl (dws g m) H → va_S (dA g) s.heap H locs → lv_has ls 5 [(0, .ref (dad g p0)), (1, .int p1), (2, .int p2), (3, .int v15)] → W p l e (headSpec wsX10_seekNear (dRm 2 48)).room s mth (([.ref (dad g p0), .int p1, .int p2] : List Value).toArray) below meth c H locs 0 0 (MQ below (dQV g m0) (([.ref (dad g p0), .int p1, .int p2] : List Value).toArray) s 0 0 (dA g)) (F0 mth 31 ls [])) q | .inr q => ∀ (H : Heap) (locs : List Loc) (ls : Array Slot), va_P g.1 vwCl (dws g m) H → va_S (dA g) s.heap H locs → lv_has ls 5 [] → W p l e (headSpec wsX10_seekNear (dRm 2 48)).room s mth (([.ref (dad g p0), .int p1, .int p2] : List Value).toArray) below meth c H locs 0 0 (MQ below (dQV g m0) (([.ref (dad g p0), .int p1, .int p2] : List Value).toArray) s 0 0 (dA g)) (F0 mth 46 ls [])) ?_ dFl _ qL1 hqL1 ?_ H locs ls hP hS (lv_sub hl [0, 1, 2, 3] rfl)
  · intro q o h hCL1 hEL1
    obtain ⟨v2, rfl⟩ : ∃ z, z = q := ⟨_, rfl⟩
    have h : fX10_seekNear_l2 m p0 p1 p2 v2 = some o := h
    intro H locs ls hP hS hl
    have hP : va_P g.1 vwCl (dws g m) H := hP
    have hl : lv_has ls 5 [(3, .int v2), (0, .ref (dad g p0)), (1, .int p1), (2, .int p2)] := hl
    unfold fX10_seekNear_l2 at h
    refine lv_iload_n S.1 S.2.1 dX10_seekNear_2 rfl (lv_at hl 0 rfl) ?_
    refine lv_aload_n S.1 S.2.1 dX10_seekNear_3 rfl (lv_at hl 1 rfl) ?_
    refine dgf10_3 S in10 hE hP k0 (S.2.2.2.2 (.fieldLink RX10 43 "DrillField$Watch" "openEnd" "I") (List.mem_of_getElem? (i := 1) rfl)) dX10_seekNear_4 ?_
    refine lv_icmp_ge (tgt := 46) S.1 S.2.1 dX10_seekNear_7 (by decide) (fun cq => ?_) (fun cq => ?_)
    · have h := d_t cq h
      obtain rfl := Option.some.inj h
      exact hEL1 _ rfl H locs ls hP hS (lv_sub hl [] rfl)
    · have h := d_f cq h
      refine lv_aload_n S.1 S.2.1 dX10_seekNear_10 rfl (lv_at hl 1 rfl) ?_
      refine lv_iload_n S.1 S.2.1 dX10_seekNear_11 rfl (lv_at hl 0 rfl) ?_
      obtain ⟨v10, hc9, h⟩ := d_b h
      obtain ⟨hk11, h⟩ := d_g h
      have hk11 := d_k hk11
      refine drr (va_runV (As := [.int v2]) (rest := []) S (kX10_standAt l g hc9) (cwV 1 S.2.2.2.2 gX10_seekNear_X10_standAt rfl rfl rfl ynX10_standAt ⟨Nat.le_of_ble_eq_true rfl, Nat.le_of_ble_eq_true rfl⟩) (dpV hE hP hS (ci := 10) rfl (dat11 k0)) rfl rfl hl.1 rfl (lv_room (Nat.le_of_ble_eq_true rfl)) dX10_seekNear_12 ⟨Nat.le_of_ble_eq_true rfl, Nat.le_of_ble_eq_true rfl⟩) hS (fun H locs hP hS => ?_)
      refine lv_astore (lv' := [(4, .ref (dad g v10)), (3, .int v2), (0, .ref (dad g p0)), (1, .int p1), (2, .int p2)]) S.1 S.2.1 dX10_seekNear_15 hl (by decide) rfl (fun ls hl => ?_)
      refine lv_aload S.1 S.2.1 dX10_seekNear_17 (lv_at hl 0 rfl) ?_
      refine lv_iload_n S.1 S.2.1 dX10_seekNear_19 rfl (lv_at hl 3 rfl) ?_
      refine lv_aload S.1 S.2.1 dX10_seekNear_20 (lv_at hl 0 rfl) ?_
      refine lv_iload_n S.1 S.2.1 dX10_seekNear_22 rfl (lv_at hl 4 rfl) ?_
      obtain ⟨v13, hc12, h⟩ := d_b h
      refine dri (va_runV (As := [.int p1, .ref (dad g v10), .int p2]) (rest := []) S (kX9_squareTo l g hc12) (cwV 3 S.2.2.2.2 gX10_seekNear_X9_squareTo rfl rfl rfl ynX9_squareTo ⟨Nat.le_of_ble_eq_true rfl, Nat.le_of_ble_eq_true rfl⟩) (dpV hE hP hS (ci := 9) rfl (dat10 hk11)) rfl rfl hl.1 rfl (lv_room (Nat.le_of_ble_eq_true rfl)) dX10_seekNear_23 ⟨Nat.le_of_ble_eq_true rfl, Nat.le_of_ble_eq_true rfl⟩) hS (fun H locs hP hS => ?_)
      refine lv_bipush (v := 100) S.1 S.2.1 dX10_seekNear_26 (by decide) ?_
      refine lv_icmp_ge (tgt := 40) S.1 S.2.1 dX10_seekNear_28 (by decide) (fun cq => ?_) (fun cq => ?_)
      · have h := d_t cq h
        obtain ⟨v14, ev14⟩ : ∃ z : Int32, z = v2 + 1 := ⟨_, rfl⟩
        have h := d_let ev14 h
        refine lv_iinc (v := v14) (lv' := [(3, .int v14), (4, .ref (dad g v10)), (0, .ref (dad g p0)), (1, .int p1), (2, .int p2)]) S.1 S.2.1 dX10_seekNear_40 hl (k := 1) rfl (by rw [ev14]; rfl) (by decide) rfl (fun ls hl => ?_)
        refine lv_goto (tgt := 2) S.1 S.2.1 dX10_seekNear_43 (by decide) ?_
        obtain rfl := Option.some.inj h
        exact hCL1 _ rfl H locs ls hP hS (lv_sub hl [0, 2, 3, 4] rfl)
      · have h := d_f cq h
        obtain rfl := Option.some.inj h
        exact hEL1 _ rfl H locs ls hP hS (lv_sub hl [2, 3, 4, 1] rfl)
  · rcases qL1 with qL1a | qL1b
    · have h := d_s1 h
      obtain ⟨v15, rfl⟩ : ∃ z, z = qL1a := ⟨_, rfl⟩
      have h := d_p1 h
      intro H locs ls hP hS hl
      have hP : va_P g.1 vwCl (dws g m) H := hP
      have hl : lv_has ls 5 [(0, .ref (dad g p0)), (1, .int p1), (2, .int p2), (3, .int v15)] := hl
      refine lv_aload_n S.1 S.2.1 dX10_seekNear_31 rfl (lv_at hl 0 rfl) ?_
      refine lv_iload_n S.1 S.2.1 dX10_seekNear_32 rfl (lv_at hl 3 rfl) ?_
      refine lv_iconst (v := 1) S.1 S.2.1 dX10_seekNear_33 (by decide) ?_
      refine lv_iload_n S.1 S.2.1 dX10_seekNear_34 rfl (lv_at hl 1 rfl) ?_
      refine lv_iload_n S.1 S.2.1 dX10_seekNear_35 rfl (lv_at hl 2 rfl) ?_
      obtain ⟨m17, hc16, h⟩ := d_b h
      refine drv (va_runV (As := [.int v15, .int 1, .int p1, .int p2]) (rest := []) S (kX10_tell l g hc16) (cwV 4 S.2.2.2.2 gX10_seekNear_X10_tell rfl rfl rfl ynX10_tell ⟨Nat.le_of_ble_eq_true rfl, Nat.le_of_ble_eq_true rfl⟩) (dpV hE hP hS (ci := 10) rfl (dat11 k0)) rfl rfl hl.1 rfl (lv_room (Nat.le_of_ble_eq_true rfl)) dX10_seekNear_36 ⟨Nat.le_of_ble_eq_true rfl, Nat.le_of_ble_eq_true rfl⟩) hS (fun H locs hP hS => ?_)
      obtain rfl := Option.some.inj h
      exact dtv S hr hlk hE hP hS dX10_seekNear_39
    · have h := d_s2 h
      intro H locs ls hP hS hl
      have hP : va_P g.1 vwCl (dws g m) H := hP
      have hl : lv_has ls 5 [] := hl
      obtain rfl := Option.some.inj h
      exact dtv S hr hlk hE hP hS dX10_seekNear_46
set_option maxRecDepth 20000 in
theorem ggX10_seekCrossing_X10_standAt : GoodIn wsX10_seekCrossing wsX10_standAt := goodIn_r _ [6, 7, 8, 9, 10, 11, 45, 46, 47, 48] (by decide +kernel) (by decide +kernel)
set_option maxRecDepth 20000 in
theorem gX10_seekCrossing_X10_standAt : GoodIn wsX10_seekCrossing (wsV RX10 47 RX10 yX10_standAt wsX10_standAt) := goodIn_app (goodIn_of _ (by decide +kernel)) ggX10_seekCrossing_X10_standAt
set_option maxRecDepth 20000 in
theorem ggX10_seekCrossing_X9_squareTo : GoodIn wsX10_seekCrossing wsX9_squareTo := goodIn_r _ [16, 17, 18, 19, 10, 20, 21, 22, 49, 50] (by decide +kernel) (by decide +kernel)
set_option maxRecDepth 20000 in
theorem gX10_seekCrossing_X9_squareTo : GoodIn wsX10_seekCrossing (wsV RX10 78 RX9 yX9_squareTo wsX9_squareTo) := goodIn_app (goodIn_of _ (by decide +kernel)) ggX10_seekCrossing_X9_squareTo
set_option maxRecDepth 20000 in
theorem ggX10_seekCrossing_X9_isCrossing : GoodIn wsX10_seekCrossing wsX9_isCrossing := goodIn_r _ [26, 27, 28, 29, 15, 30, 17, 18, 19, 10, 20, 49, 50] (by decide +kernel) (by decide +kernel)
set_option maxRecDepth 20000 in
theorem gX10_seekCrossing_X9_isCrossing : GoodIn wsX10_seekCrossing (wsV RX10 92 RX9 yX9_isCrossing wsX9_isCrossing) := goodIn_app (goodIn_of _ (by decide +kernel)) ggX10_seekCrossing_X9_isCrossing
set_option maxRecDepth 20000 in
theorem ggX10_seekCrossing_X10_tell : GoodIn wsX10_seekCrossing wsX10_tell := goodIn_r _ [34, 35, 1, 36, 37, 38, 39, 40, 41, 42, 43, 44, 45, 46, 47, 48, 51, 52, 53, 54] (by decide +kernel) (by decide +kernel)
set_option maxRecDepth 20000 in
theorem gX10_seekCrossing_X10_tell : GoodIn wsX10_seekCrossing (wsV RX10 82 RX10 yX10_tell wsX10_tell) := goodIn_app (goodIn_of _ (by decide +kernel)) ggX10_seekCrossing_X10_tell
theorem dX10_seekCrossing_0 : decode cX10_seekCrossing 0 = .ok (.iconst 1, 1) := by decide +kernel
theorem dX10_seekCrossing_1 : decode cX10_seekCrossing 1 = .ok (.istore_n 3, 1) := by decide +kernel
theorem dX10_seekCrossing_2 : decode cX10_seekCrossing 2 = .ok (.iload_n 3, 1) := by decide +kernel
theorem dX10_seekCrossing_3 : decode cX10_seekCrossing 3 = .ok (.aload_n 0, 1) := by decide +kernel
theorem dX10_seekCrossing_4 : decode cX10_seekCrossing 4 = .ok (.getfield 43, 3) := by decide +kernel
theorem dX10_seekCrossing_7 : decode cX10_seekCrossing 7 = .ok (.if_icmp .ge 69, 3) := by decide +kernel
theorem dX10_seekCrossing_10 : decode cX10_seekCrossing 10 = .ok (.aload_n 0, 1) := by decide +kernel
theorem dX10_seekCrossing_11 : decode cX10_seekCrossing 11 = .ok (.iload_n 3, 1) := by decide +kernel
theorem dX10_seekCrossing_12 : decode cX10_seekCrossing 12 = .ok (.invokevirtual 47, 3) := by decide +kernel
theorem dX10_seekCrossing_15 : decode cX10_seekCrossing 15 = .ok (.astore 4, 2) := by decide +kernel
theorem dX10_seekCrossing_17 : decode cX10_seekCrossing 17 = .ok (.aload 4, 2) := by decide +kernel
theorem dX10_seekCrossing_19 : decode cX10_seekCrossing 19 = .ok (.iload_n 1, 1) := by decide +kernel
theorem dX10_seekCrossing_20 : decode cX10_seekCrossing 20 = .ok (.aload 4, 2) := by decide +kernel
theorem dX10_seekCrossing_22 : decode cX10_seekCrossing 22 = .ok (.iload_n 2, 1) := by decide +kernel
theorem dX10_seekCrossing_23 : decode cX10_seekCrossing 23 = .ok (.invokevirtual 78, 3) := by decide +kernel
theorem dX10_seekCrossing_26 : decode cX10_seekCrossing 26 = .ok (.sipush 6400, 3) := by decide +kernel
theorem dX10_seekCrossing_29 : decode cX10_seekCrossing 29 = .ok (.if_icmp .gt 7, 3) := by decide +kernel
theorem dX10_seekCrossing_32 : decode cX10_seekCrossing 32 = .ok (.iconst 1, 1) := by decide +kernel
theorem dX10_seekCrossing_33 : decode cX10_seekCrossing 33 = .ok (.goto 4, 3) := by decide +kernel
theorem dX10_seekCrossing_36 : decode cX10_seekCrossing 36 = .ok (.iconst 0, 1) := by decide +kernel
theorem dX10_seekCrossing_37 : decode cX10_seekCrossing 37 = .ok (.istore 5, 2) := by decide +kernel
theorem dX10_seekCrossing_39 : decode cX10_seekCrossing 39 = .ok (.iload 5, 2) := by decide +kernel
theorem dX10_seekCrossing_41 : decode cX10_seekCrossing 41 = .ok (.ifCond .eq 29, 3) := by decide +kernel
theorem dX10_seekCrossing_44 : decode cX10_seekCrossing 44 = .ok (.aload_n 0, 1) := by decide +kernel
theorem dX10_seekCrossing_45 : decode cX10_seekCrossing 45 = .ok (.iload_n 3, 1) := by decide +kernel
theorem dX10_seekCrossing_46 : decode cX10_seekCrossing 46 = .ok (.iconst 1, 1) := by decide +kernel
theorem dX10_seekCrossing_47 : decode cX10_seekCrossing 47 = .ok (.isub, 1) := by decide +kernel
theorem dX10_seekCrossing_48 : decode cX10_seekCrossing 48 = .ok (.invokevirtual 47, 3) := by decide +kernel
theorem dX10_seekCrossing_51 : decode cX10_seekCrossing 51 = .ok (.aload 4, 2) := by decide +kernel
theorem dX10_seekCrossing_53 : decode cX10_seekCrossing 53 = .ok (.iload_n 1, 1) := by decide +kernel
theorem dX10_seekCrossing_54 : decode cX10_seekCrossing 54 = .ok (.iload_n 2, 1) := by decide +kernel
theorem dX10_seekCrossing_55 : decode cX10_seekCrossing 55 = .ok (.invokevirtual 92, 3) := by decide +kernel
theorem dX10_seekCrossing_58 : decode cX10_seekCrossing 58 = .ok (.ifCond .eq 12, 3) := by decide +kernel
theorem dX10_seekCrossing_61 : decode cX10_seekCrossing 61 = .ok (.aload_n 0, 1) := by decide +kernel
theorem dX10_seekCrossing_62 : decode cX10_seekCrossing 62 = .ok (.iload_n 3, 1) := by decide +kernel
theorem dX10_seekCrossing_63 : decode cX10_seekCrossing 63 = .ok (.iconst 2, 1) := by decide +kernel
theorem dX10_seekCrossing_64 : decode cX10_seekCrossing 64 = .ok (.iload_n 1, 1) := by decide +kernel
theorem dX10_seekCrossing_65 : decode cX10_seekCrossing 65 = .ok (.iload_n 2, 1) := by decide +kernel
theorem dX10_seekCrossing_66 : decode cX10_seekCrossing 66 = .ok (.invokevirtual 82, 3) := by decide +kernel
theorem dX10_seekCrossing_69 : decode cX10_seekCrossing 69 = .ok (.return_, 1) := by decide +kernel
theorem dX10_seekCrossing_70 : decode cX10_seekCrossing 70 = .ok (.iinc 3 1, 3) := by decide +kernel
theorem dX10_seekCrossing_73 : decode cX10_seekCrossing 73 = .ok (.goto (-71), 3) := by decide +kernel
theorem dX10_seekCrossing_76 : decode cX10_seekCrossing 76 = .ok (.return_, 1) := by decide +kernel
def fX10_seekCrossing_l2 (m : dM) (p0 : Nat) (p1 : Int32) (p2 : Int32) (v2 : Int32) : Option (Int32 ⊕ (Int32 ⊕ Unit)) := if (m.1 p0 3) ≤ v2 then some (.inr (.inr ())) else (fX10_standAt m p0 v2).bind (fun v16 => dg (dkg v16 10) ((fX9_squareTo m v16 p1 v16 p2).bind (fun v19 => if 6400 < v19 then dlet (v2 + 1 : Int32) (fun v20 => some (.inl v20)) else (fX10_standAt m p0 (v2 - 1)).bind (fun v22 => dg (dkg v22 10) ((fX9_isCrossing m v22 v16 p1 p2).bind (fun v25 => if v25 = 0 then dlet (v2 + 1 : Int32) (fun v26 => some (.inl v26)) else some (.inr (.inl v2))))))))
def fX10_seekCrossing (m : dM) (p0 : Nat) (p1 : Int32) (p2 : Int32) : Option dM := dg (dkg p0 11) ((dlp (fun q => (fun v2 => fX10_seekCrossing_l2 m p0 p1 p2 v2) q) dFl 1).bind (fun q => dS q (fun q => dP1 q (fun v27 => (fX10_tell m p0 v27 2 p1 p2).bind (fun m29 => some m29))) (fun _ => some m)))
set_option maxHeartbeats 4000000 in
set_option maxRecDepth 100000 in
theorem kX10_seekCrossing (l : Launch) (g : dG) {m : dM} {p0 : Nat} {p1 : Int32} {p2 : Int32} {m0 : dM} (h : fX10_seekCrossing m p0 p1 p2 = some m0) : dMet l g yX10_seekCrossing wsX10_seekCrossing (dRm 3 72) [.ref (dad g p0), .int p1, .int p2] m (dQV g m0) := by
  refine dof (cc := cX10_seekCrossing) (maxL := 6) (ret := none) _ (plainFor_of_name (by decide)) rfl (Nat.le_of_ble_eq_true rfl) ?_
  intro p e s mth below meth c S hr hlk hE H ls hP hS hl
  have S : CallFix p mth c cX10_seekCrossing 6 s _ wsX10_seekCrossing RX10 := S
  have hl : lv_has ls 6 [(0, .ref (dad g p0)), (1, .int p1), (2, .int p2)] := hl
  obtain ⟨locs, hlocs⟩ : ∃ z : List Loc, z = [] := ⟨_, rfl⟩
  rw [← hlocs] at hS ⊢
  have in10 : ∀ w ∈ wsX100, w ∈ wsX10_seekCrossing := by decide +kernel
  unfold fX10_seekCrossing at h
  obtain ⟨k0, h⟩ := d_g h
  have k0 := d_k k0
  refine lv_iconst (v := 1) S.1 S.2.1 dX10_seekCrossing_0 (by decide) ?_
  refine lv_istore_n (lv' := [(3, .int 1), (0, .ref (dad g p0)), (1, .int p1), (2, .int p2)]) S.1 S.2.1 dX10_seekCrossing_1 rfl hl (by decide) rfl (fun ls hl => ?_)
  obtain ⟨qL1, hqL1, h⟩ := d_b h
  refine d_lp (Hd := fun q => (fun (v2 : _) => ∀ (H : Heap) (locs : List Loc) (ls : Array Slot), va_P g.1 vwCl (dws g m) H → va_S (dA g) s.heap H locs → lv_has ls 6 [(3, .int v2), (0, .ref (dad g p0)), (1, .int p1), (2, .int p2)] → W p l e (headSpec wsX10_seekCrossing (dRm 3 72)).room s mth (([.ref (dad g p0), .int p1, .int p2] : List Value).toArray) below meth c H locs 0 0 (MQ below (dQV g m0) (([.ref (dad g p0), .int p1, .int p2] : List Value).toArray) s 0 0 (dA g)) (F0 mth 2 ls [])) q) (K := fun q => match q with | .inl q => (fun (v27 : _) => ∀ (H : Heap) (locs : List Loc) (ls : Array Slot), va_P g.1 vwCl (dws g m) H → va_S (dA g) s.heap H locs → lv_has ls 6 [(0, .ref (dad g p0)), (1, .int p1), (2, .int p2), (3, .int v27)] → W p l e (headSpec wsX10_seekCrossing (dRm 3 72)).room s mth (([.ref (dad g p0), .int p1, .int p2] : List Value).toArray) below meth c H locs 0 0 (MQ below (dQV g m0) (([.ref (dad g p0), .int p1, .int p2] : List Value).toArray) s 0 0 (dA g)) (F0 mth 61 ls [])) q | .inr q => ∀ (H : Heap) (locs : List Loc) (ls : Array Slot), va_P g.1 vwCl (dws g m) H → va_S (dA g) s.heap H locs → lv_has ls 6 [] → W p l e (headSpec wsX10_seekCrossing (dRm 3 72)).room s mth (([.ref (dad g p0), .int p1, .int p2] : List Value).toArray) below meth c H locs 0 0 (MQ below (dQV g m0) (([.ref (dad g p0), .int p1, .int p2] : List Value).toArray) s 0 0 (dA g)) (F0 mth 76 ls [])) ?_ dFl _ qL1 hqL1 ?_ H locs ls hP hS (lv_sub hl [0, 1, 2, 3] rfl)
  · intro q o h hCL1 hEL1
    obtain ⟨v2, rfl⟩ : ∃ z, z = q := ⟨_, rfl⟩
    have h : fX10_seekCrossing_l2 m p0 p1 p2 v2 = some o := h
    intro H locs ls hP hS hl
    have hP : va_P g.1 vwCl (dws g m) H := hP
    have hl : lv_has ls 6 [(3, .int v2), (0, .ref (dad g p0)), (1, .int p1), (2, .int p2)] := hl
    unfold fX10_seekCrossing_l2 at h
    refine lv_iload_n S.1 S.2.1 dX10_seekCrossing_2 rfl (lv_at hl 0 rfl) ?_
    refine lv_aload_n S.1 S.2.1 dX10_seekCrossing_3 rfl (lv_at hl 1 rfl) ?_
    refine dgf10_3 S in10 hE hP k0 (S.2.2.2.2 (.fieldLink RX10 43 "DrillField$Watch" "openEnd" "I") (List.mem_of_getElem? (i := 1) rfl)) dX10_seekCrossing_4 ?_
    refine lv_icmp_ge (tgt := 76) S.1 S.2.1 dX10_seekCrossing_7 (by decide) (fun cq => ?_) (fun cq => ?_)
    · have h := d_t cq h
      obtain rfl := Option.some.inj h
      exact hEL1 _ rfl H locs ls hP hS (lv_sub hl [] rfl)
    · have h := d_f cq h
      refine lv_aload_n S.1 S.2.1 dX10_seekCrossing_10 rfl (lv_at hl 1 rfl) ?_
      refine lv_iload_n S.1 S.2.1 dX10_seekCrossing_11 rfl (lv_at hl 0 rfl) ?_
      obtain ⟨v16, hc15, h⟩ := d_b h
      obtain ⟨hk17, h⟩ := d_g h
      have hk17 := d_k hk17
      refine drr (va_runV (As := [.int v2]) (rest := []) S (kX10_standAt l g hc15) (cwV 1 S.2.2.2.2 gX10_seekCrossing_X10_standAt rfl rfl rfl ynX10_standAt ⟨Nat.le_of_ble_eq_true rfl, Nat.le_of_ble_eq_true rfl⟩) (dpV hE hP hS (ci := 10) rfl (dat11 k0)) rfl rfl hl.1 rfl (lv_room (Nat.le_of_ble_eq_true rfl)) dX10_seekCrossing_12 ⟨Nat.le_of_ble_eq_true rfl, Nat.le_of_ble_eq_true rfl⟩) hS (fun H locs hP hS => ?_)
      refine lv_astore (lv' := [(4, .ref (dad g v16)), (3, .int v2), (0, .ref (dad g p0)), (1, .int p1), (2, .int p2)]) S.1 S.2.1 dX10_seekCrossing_15 hl (by decide) rfl (fun ls hl => ?_)
      refine lv_aload S.1 S.2.1 dX10_seekCrossing_17 (lv_at hl 0 rfl) ?_
      refine lv_iload_n S.1 S.2.1 dX10_seekCrossing_19 rfl (lv_at hl 3 rfl) ?_
      refine lv_aload S.1 S.2.1 dX10_seekCrossing_20 (lv_at hl 0 rfl) ?_
      refine lv_iload_n S.1 S.2.1 dX10_seekCrossing_22 rfl (lv_at hl 4 rfl) ?_
      obtain ⟨v19, hc18, h⟩ := d_b h
      refine dri (va_runV (As := [.int p1, .ref (dad g v16), .int p2]) (rest := []) S (kX9_squareTo l g hc18) (cwV 3 S.2.2.2.2 gX10_seekCrossing_X9_squareTo rfl rfl rfl ynX9_squareTo ⟨Nat.le_of_ble_eq_true rfl, Nat.le_of_ble_eq_true rfl⟩) (dpV hE hP hS (ci := 9) rfl (dat10 hk17)) rfl rfl hl.1 rfl (lv_room (Nat.le_of_ble_eq_true rfl)) dX10_seekCrossing_23 ⟨Nat.le_of_ble_eq_true rfl, Nat.le_of_ble_eq_true rfl⟩) hS (fun H locs hP hS => ?_)
      refine lv_sipush (v := 6400) S.1 S.2.1 dX10_seekCrossing_26 (by decide) ?_
      refine lv_icmp_gt (tgt := 36) S.1 S.2.1 dX10_seekCrossing_29 (by decide) (fun cq => ?_) (fun cq => ?_)
      · have h := d_t cq h
        refine lv_iconst (v := 0) S.1 S.2.1 dX10_seekCrossing_36 (by decide) ?_
        refine lv_istore (lv' := [(5, .int 0), (4, .ref (dad g v16)), (3, .int v2), (0, .ref (dad g p0)), (1, .int p1), (2, .int p2)]) S.1 S.2.1 dX10_seekCrossing_37 hl (by decide) rfl (fun ls hl => ?_)
        refine lv_iload S.1 S.2.1 dX10_seekCrossing_39 (lv_at hl 0 rfl) ?_
        refine lv_if_eq (tgt := 70) S.1 S.2.1 dX10_seekCrossing_41 (by decide) (fun cq => ?_) (fun cq => ?_)
        · obtain ⟨v20, ev20⟩ : ∃ z : Int32, z = v2 + 1 := ⟨_, rfl⟩
          have h := d_let ev20 h
          refine lv_iinc (v := v20) (lv' := [(3, .int v20), (5, .int 0), (4, .ref (dad g v16)), (0, .ref (dad g p0)), (1, .int p1), (2, .int p2)]) S.1 S.2.1 dX10_seekCrossing_70 hl (k := 2) rfl (by rw [ev20]; rfl) (by decide) rfl (fun ls hl => ?_)
          refine lv_goto (tgt := 2) S.1 S.2.1 dX10_seekCrossing_73 (by decide) ?_
          obtain rfl := Option.some.inj h
          exact hCL1 _ rfl H locs ls hP hS (lv_sub hl [0, 3, 4, 5] rfl)
        · exact absurd (by decide) cq
      · have h := d_f cq h
        refine lv_iconst (v := 1) S.1 S.2.1 dX10_seekCrossing_32 (by decide) ?_
        refine lv_goto (tgt := 37) S.1 S.2.1 dX10_seekCrossing_33 (by decide) ?_
        refine lv_istore (lv' := [(5, .int 1), (4, .ref (dad g v16)), (3, .int v2), (0, .ref (dad g p0)), (1, .int p1), (2, .int p2)]) S.1 S.2.1 dX10_seekCrossing_37 hl (by decide) rfl (fun ls hl => ?_)
        refine lv_iload S.1 S.2.1 dX10_seekCrossing_39 (lv_at hl 0 rfl) ?_
        refine lv_if_eq (tgt := 70) S.1 S.2.1 dX10_seekCrossing_41 (by decide) (fun cq => ?_) (fun cq => ?_)
        · exact absurd cq (by decide)
        · refine lv_aload_n S.1 S.2.1 dX10_seekCrossing_44 rfl (lv_at hl 3 rfl) ?_
          refine lv_iload_n S.1 S.2.1 dX10_seekCrossing_45 rfl (lv_at hl 2 rfl) ?_
          refine lv_iconst (v := 1) S.1 S.2.1 dX10_seekCrossing_46 (by decide) ?_
          refine lv_isub S.1 S.2.1 dX10_seekCrossing_47 ?_
          obtain ⟨v22, hc21, h⟩ := d_b h
          obtain ⟨hk23, h⟩ := d_g h
          have hk23 := d_k hk23
          refine drr (va_runV (As := [.int (v2 - 1)]) (rest := []) S (kX10_standAt l g hc21) (cwV 1 S.2.2.2.2 gX10_seekCrossing_X10_standAt rfl rfl rfl ynX10_standAt ⟨Nat.le_of_ble_eq_true rfl, Nat.le_of_ble_eq_true rfl⟩) (dpV hE hP hS (ci := 10) rfl (dat11 k0)) rfl rfl hl.1 rfl (lv_room (Nat.le_of_ble_eq_true rfl)) dX10_seekCrossing_48 ⟨Nat.le_of_ble_eq_true rfl, Nat.le_of_ble_eq_true rfl⟩) hS (fun H locs hP hS => ?_)
          refine lv_aload S.1 S.2.1 dX10_seekCrossing_51 (lv_at hl 1 rfl) ?_
          refine lv_iload_n S.1 S.2.1 dX10_seekCrossing_53 rfl (lv_at hl 4 rfl) ?_
          refine lv_iload_n S.1 S.2.1 dX10_seekCrossing_54 rfl (lv_at hl 5 rfl) ?_
          obtain ⟨v25, hc24, h⟩ := d_b h
          refine dri (va_runV (As := [.ref (dad g v16), .int p1, .int p2]) (rest := []) S (kX9_isCrossing l g hc24) (cwV 3 S.2.2.2.2 gX10_seekCrossing_X9_isCrossing rfl rfl rfl ynX9_isCrossing ⟨Nat.le_of_ble_eq_true rfl, Nat.le_of_ble_eq_true rfl⟩) (dpV hE hP hS (ci := 9) rfl (dat10 hk23)) rfl rfl hl.1 rfl (lv_room (Nat.le_of_ble_eq_true rfl)) dX10_seekCrossing_55 ⟨Nat.le_of_ble_eq_true rfl, Nat.le_of_ble_eq_true rfl⟩) hS (fun H locs hP hS => ?_)
          refine lv_if_eq (tgt := 70) S.1 S.2.1 dX10_seekCrossing_58 (by decide) (fun cq => ?_) (fun cq => ?_)
          · have h := d_t cq h
            obtain ⟨v26, ev26⟩ : ∃ z : Int32, z = v2 + 1 := ⟨_, rfl⟩
            have h := d_let ev26 h
            refine lv_iinc (v := v26) (lv' := [(3, .int v26), (5, .int 1), (4, .ref (dad g v16)), (0, .ref (dad g p0)), (1, .int p1), (2, .int p2)]) S.1 S.2.1 dX10_seekCrossing_70 hl (k := 2) rfl (by rw [ev26]; rfl) (by decide) rfl (fun ls hl => ?_)
            refine lv_goto (tgt := 2) S.1 S.2.1 dX10_seekCrossing_73 (by decide) ?_
            obtain rfl := Option.some.inj h
            exact hCL1 _ rfl H locs ls hP hS (lv_sub hl [0, 3, 4, 5] rfl)
          · have h := d_f cq h
            obtain rfl := Option.some.inj h
            exact hEL1 _ rfl H locs ls hP hS (lv_sub hl [3, 4, 5, 2] rfl)
  · rcases qL1 with qL1a | qL1b
    · have h := d_s1 h
      obtain ⟨v27, rfl⟩ : ∃ z, z = qL1a := ⟨_, rfl⟩
      have h := d_p1 h
      intro H locs ls hP hS hl
      have hP : va_P g.1 vwCl (dws g m) H := hP
      have hl : lv_has ls 6 [(0, .ref (dad g p0)), (1, .int p1), (2, .int p2), (3, .int v27)] := hl
      refine lv_aload_n S.1 S.2.1 dX10_seekCrossing_61 rfl (lv_at hl 0 rfl) ?_
      refine lv_iload_n S.1 S.2.1 dX10_seekCrossing_62 rfl (lv_at hl 3 rfl) ?_
      refine lv_iconst (v := 2) S.1 S.2.1 dX10_seekCrossing_63 (by decide) ?_
      refine lv_iload_n S.1 S.2.1 dX10_seekCrossing_64 rfl (lv_at hl 1 rfl) ?_
      refine lv_iload_n S.1 S.2.1 dX10_seekCrossing_65 rfl (lv_at hl 2 rfl) ?_
      obtain ⟨m29, hc28, h⟩ := d_b h
      refine drv (va_runV (As := [.int v27, .int 2, .int p1, .int p2]) (rest := []) S (kX10_tell l g hc28) (cwV 4 S.2.2.2.2 gX10_seekCrossing_X10_tell rfl rfl rfl ynX10_tell ⟨Nat.le_of_ble_eq_true rfl, Nat.le_of_ble_eq_true rfl⟩) (dpV hE hP hS (ci := 10) rfl (dat11 k0)) rfl rfl hl.1 rfl (lv_room (Nat.le_of_ble_eq_true rfl)) dX10_seekCrossing_66 ⟨Nat.le_of_ble_eq_true rfl, Nat.le_of_ble_eq_true rfl⟩) hS (fun H locs hP hS => ?_)
      obtain rfl := Option.some.inj h
      exact dtv S hr hlk hE hP hS dX10_seekCrossing_69
    · have h := d_s2 h
      intro H locs ls hP hS hl
      have hP : va_P g.1 vwCl (dws g m) H := hP
      have hl : lv_has ls 6 [] := hl
      obtain rfl := Option.some.inj h
      exact dtv S hr hlk hE hP hS dX10_seekCrossing_76
set_option maxRecDepth 20000 in
theorem ggX10_seekPairs_X1_number : GoodIn wsX10_seekPairs wsX1_number := goodIn_r _ [5, 6, 66, 67, 68, 69, 70] (by decide +kernel) (by decide +kernel)
set_option maxRecDepth 20000 in
theorem gX10_seekPairs_X1_number : GoodIn wsX10_seekPairs (wsV RX10 29 RX1 yX1_number wsX1_number) := goodIn_app (goodIn_of _ (by decide +kernel)) ggX10_seekPairs_X1_number
set_option maxRecDepth 20000 in
theorem ggX10_seekPairs_X1_marches : GoodIn wsX10_seekPairs wsX1_marches := goodIn_r _ [10, 11, 12, 13, 14, 15, 16, 66, 67, 68, 69, 70] (by decide +kernel) (by decide +kernel)
set_option maxRecDepth 20000 in
theorem gX10_seekPairs_X1_marches : GoodIn wsX10_seekPairs (wsV RX10 55 RX1 yX1_marches wsX1_marches) := goodIn_app (goodIn_of _ (by decide +kernel)) ggX10_seekPairs_X1_marches
set_option maxRecDepth 20000 in
theorem ggX10_seekPairs_X10_seekNear : GoodIn wsX10_seekPairs wsX10_seekNear := goodIn_r _ [21, 22, 23, 24, 25, 20, 26, 27, 28, 29, 15, 30, 31, 32, 33, 34, 35, 36, 37, 14, 16, 38, 39, 40, 41, 42, 43, 44, 45, 46, 47, 48, 49, 50, 51, 52, 53, 71, 72, 73, 74, 75, 76, 77, 78, 79, 80] (by decide +kernel) (by decide +kernel)
set_option maxRecDepth 20000 in
theorem gX10_seekPairs_X10_seekNear : GoodIn wsX10_seekPairs (wsV RX10 86 RX10 yX10_seekNear wsX10_seekNear) := goodIn_app (goodIn_of _ (by decide +kernel)) ggX10_seekPairs_X10_seekNear
set_option maxRecDepth 20000 in
theorem ggX10_seekPairs_X10_seekCrossing : GoodIn wsX10_seekPairs wsX10_seekCrossing := goodIn_r _ [57, 22, 23, 24, 25, 20, 26, 27, 28, 29, 15, 30, 31, 32, 33, 34, 35, 36, 37, 14, 16, 38, 39, 58, 59, 60, 61, 62, 63, 64, 65, 40, 41, 42, 43, 44, 45, 46, 47, 48, 49, 50, 51, 52, 53, 71, 72, 73, 74, 75, 76, 77, 78, 79, 80] (by decide +kernel) (by decide +kernel)
set_option maxRecDepth 20000 in
theorem gX10_seekPairs_X10_seekCrossing : GoodIn wsX10_seekPairs (wsV RX10 89 RX10 yX10_seekCrossing wsX10_seekCrossing) := goodIn_app (goodIn_of _ (by decide +kernel)) ggX10_seekPairs_X10_seekCrossing
theorem dX10_seekPairs_0 : decode cX10_seekPairs 0 = .ok (.aload_n 2, 1) := by decide +kernel
theorem dX10_seekPairs_1 : decode cX10_seekPairs 1 = .ok (.invokevirtual 29, 3) := by decide +kernel
theorem dX10_seekPairs_4 : decode cX10_seekPairs 4 = .ok (.istore_n 3, 1) := by decide +kernel
theorem dX10_seekPairs_5 : decode cX10_seekPairs 5 = .ok (.iconst 0, 1) := by decide +kernel
theorem dX10_seekPairs_6 : decode cX10_seekPairs 6 = .ok (.istore 4, 2) := by decide +kernel
theorem dX10_seekPairs_8 : decode cX10_seekPairs 8 = .ok (.iload 4, 2) := by decide +kernel
theorem dX10_seekPairs_10 : decode cX10_seekPairs 10 = .ok (.iload_n 3, 1) := by decide +kernel
theorem dX10_seekPairs_11 : decode cX10_seekPairs 11 = .ok (.if_icmp .ge 78, 3) := by decide +kernel
theorem dX10_seekPairs_14 : decode cX10_seekPairs 14 = .ok (.iload 4, 2) := by decide +kernel
theorem dX10_seekPairs_16 : decode cX10_seekPairs 16 = .ok (.iconst 1, 1) := by decide +kernel
theorem dX10_seekPairs_17 : decode cX10_seekPairs 17 = .ok (.iadd, 1) := by decide +kernel
theorem dX10_seekPairs_18 : decode cX10_seekPairs 18 = .ok (.istore 5, 2) := by decide +kernel
theorem dX10_seekPairs_20 : decode cX10_seekPairs 20 = .ok (.iload 5, 2) := by decide +kernel
theorem dX10_seekPairs_22 : decode cX10_seekPairs 22 = .ok (.iload_n 3, 1) := by decide +kernel
theorem dX10_seekPairs_23 : decode cX10_seekPairs 23 = .ok (.if_icmp .ge 60, 3) := by decide +kernel
theorem dX10_seekPairs_26 : decode cX10_seekPairs 26 = .ok (.aload_n 2, 1) := by decide +kernel
theorem dX10_seekPairs_27 : decode cX10_seekPairs 27 = .ok (.iload 4, 2) := by decide +kernel
theorem dX10_seekPairs_29 : decode cX10_seekPairs 29 = .ok (.invokevirtual 55, 3) := by decide +kernel
theorem dX10_seekPairs_32 : decode cX10_seekPairs 32 = .ok (.ifCond .eq 51, 3) := by decide +kernel
theorem dX10_seekPairs_35 : decode cX10_seekPairs 35 = .ok (.iload_n 1, 1) := by decide +kernel
theorem dX10_seekPairs_36 : decode cX10_seekPairs 36 = .ok (.iconst 1, 1) := by decide +kernel
theorem dX10_seekPairs_37 : decode cX10_seekPairs 37 = .ok (.if_icmp .ne 23, 3) := by decide +kernel
theorem dX10_seekPairs_40 : decode cX10_seekPairs 40 = .ok (.aload_n 2, 1) := by decide +kernel
theorem dX10_seekPairs_41 : decode cX10_seekPairs 41 = .ok (.iload 5, 2) := by decide +kernel
theorem dX10_seekPairs_43 : decode cX10_seekPairs 43 = .ok (.invokevirtual 55, 3) := by decide +kernel
theorem dX10_seekPairs_46 : decode cX10_seekPairs 46 = .ok (.ifCond .eq 14, 3) := by decide +kernel
theorem dX10_seekPairs_49 : decode cX10_seekPairs 49 = .ok (.aload_n 0, 1) := by decide +kernel
theorem dX10_seekPairs_50 : decode cX10_seekPairs 50 = .ok (.iload 4, 2) := by decide +kernel
theorem dX10_seekPairs_52 : decode cX10_seekPairs 52 = .ok (.iload 5, 2) := by decide +kernel
theorem dX10_seekPairs_54 : decode cX10_seekPairs 54 = .ok (.invokevirtual 86, 3) := by decide +kernel
theorem dX10_seekPairs_57 : decode cX10_seekPairs 57 = .ok (.goto 20, 3) := by decide +kernel
theorem dX10_seekPairs_60 : decode cX10_seekPairs 60 = .ok (.aload_n 2, 1) := by decide +kernel
theorem dX10_seekPairs_61 : decode cX10_seekPairs 61 = .ok (.iload 5, 2) := by decide +kernel
theorem dX10_seekPairs_63 : decode cX10_seekPairs 63 = .ok (.invokevirtual 55, 3) := by decide +kernel
theorem dX10_seekPairs_66 : decode cX10_seekPairs 66 = .ok (.ifCond .eq 11, 3) := by decide +kernel
theorem dX10_seekPairs_69 : decode cX10_seekPairs 69 = .ok (.aload_n 0, 1) := by decide +kernel
theorem dX10_seekPairs_70 : decode cX10_seekPairs 70 = .ok (.iload 4, 2) := by decide +kernel
theorem dX10_seekPairs_72 : decode cX10_seekPairs 72 = .ok (.iload 5, 2) := by decide +kernel
theorem dX10_seekPairs_74 : decode cX10_seekPairs 74 = .ok (.invokevirtual 89, 3) := by decide +kernel
theorem dX10_seekPairs_77 : decode cX10_seekPairs 77 = .ok (.iinc 5 1, 3) := by decide +kernel
theorem dX10_seekPairs_80 : decode cX10_seekPairs 80 = .ok (.goto (-60), 3) := by decide +kernel
theorem dX10_seekPairs_83 : decode cX10_seekPairs 83 = .ok (.iinc 4 1, 3) := by decide +kernel
theorem dX10_seekPairs_86 : decode cX10_seekPairs 86 = .ok (.goto (-78), 3) := by decide +kernel
theorem dX10_seekPairs_89 : decode cX10_seekPairs 89 = .ok (.return_, 1) := by decide +kernel
def fX10_seekPairs_l20 (p0 : Nat) (p1 : Int32) (p2 : Nat) (v2 : Int32) (v4 : Int32) (v52 : Int32) (m53 : dM) : Option ((Int32 × dM) ⊕ dM) := if v2 ≤ v52 then some (.inr m53) else (fX1_marches m53 p2 v4).bind (fun v74 => if v74 = 0 then some (.inr m53) else if p1 = 1 then (fX1_marches m53 p2 v52).bind (fun v82 => if v82 = 0 then (fX1_marches m53 p2 v52).bind (fun v84 => if v84 = 0 then dlet (v52 + 1 : Int32) (fun v85 => some (.inl (v85, m53))) else (fX10_seekCrossing m53 p0 v4 v52).bind (fun m87 => dlet (v52 + 1 : Int32) (fun v88 => some (.inl (v88, m87))))) else (fX10_seekNear m53 p0 v4 v52).bind (fun m90 => dlet (v52 + 1 : Int32) (fun v91 => some (.inl (v91, m90))))) else (fX1_marches m53 p2 v52).bind (fun v76 => if v76 = 0 then dlet (v52 + 1 : Int32) (fun v77 => some (.inl (v77, m53))) else (fX10_seekCrossing m53 p0 v4 v52).bind (fun m79 => dlet (v52 + 1 : Int32) (fun v80 => some (.inl (v80, m79))))))
def fX10_seekPairs_l8 (p0 : Nat) (p1 : Int32) (p2 : Nat) (v2 : Int32) (v4 : Int32) (m5 : dM) : Option ((Int32 × dM) ⊕ dM) := if v2 ≤ v4 then some (.inr m5) else dlet (v4 + 1 : Int32) (fun v50 => (dlp (fun q => dP2 q (fun v52 m53 => fX10_seekPairs_l20 p0 p1 p2 v2 v4 v52 m53)) dFl (v50, m5)).bind (fun q => dP1 q (fun m92 => dlet (v4 + 1 : Int32) (fun v93 => some (.inl (v93, m92))))))
def fX10_seekPairs (m : dM) (p0 : Nat) (p1 : Int32) (p2 : Nat) : Option dM := dg (dkg p0 11) (dg (dkg p2 2) ((fX1_number m p2).bind (fun v2 => (dlp (fun q => dP2 q (fun v4 m5 => fX10_seekPairs_l8 p0 p1 p2 v2 v4 m5)) dFl (0, m)).bind (fun q => dP1 q (fun m94 => some m94)))))
set_option maxHeartbeats 4000000 in
set_option maxRecDepth 100000 in
theorem kX10_seekPairs (l : Launch) (g : dG) {m : dM} {p0 : Nat} {p1 : Int32} {p2 : Nat} {m0 : dM} (h : fX10_seekPairs m p0 p1 p2 = some m0) : dMet l g yX10_seekPairs wsX10_seekPairs (dRm 4 97) [.ref (dad g p0), .int p1, .ref (dad g p2)] m (dQV g m0) := by
  refine dof (cc := cX10_seekPairs) (maxL := 6) (ret := none) _ (plainFor_of_name (by decide)) rfl (Nat.le_of_ble_eq_true rfl) ?_
  intro p e s mth below meth c S hr hlk hE H ls hP hS hl
  have S : CallFix p mth c cX10_seekPairs 6 s _ wsX10_seekPairs RX10 := S
  have hl : lv_has ls 6 [(0, .ref (dad g p0)), (1, .int p1), (2, .ref (dad g p2))] := hl
  obtain ⟨locs, hlocs⟩ : ∃ z : List Loc, z = [] := ⟨_, rfl⟩
  rw [← hlocs] at hS ⊢
  unfold fX10_seekPairs at h
  obtain ⟨k0, h⟩ := d_g h
  have k0 := d_k k0
  obtain ⟨k2, h⟩ := d_g h
  have k2 := d_k k2
  refine lv_aload_n S.1 S.2.1 dX10_seekPairs_0 rfl (lv_at hl 2 rfl) ?_
  obtain ⟨v2, hc1, h⟩ := d_b h
  refine dri (va_runV (As := []) (rest := []) S (kX1_number l g hc1) (cwV 0 S.2.2.2.2 gX10_seekPairs_X1_number rfl rfl rfl ynX1_number ⟨Nat.le_of_ble_eq_true rfl, Nat.le_of_ble_eq_true rfl⟩) (dpV hE hP hS (ci := 1) rfl (dat2 k2)) rfl rfl hl.1 rfl (lv_room (Nat.le_of_ble_eq_true rfl)) dX10_seekPairs_1 ⟨Nat.le_of_ble_eq_true rfl, Nat.le_of_ble_eq_true rfl⟩) hS (fun H locs hP hS => ?_)
  refine lv_istore_n (lv' := [(3, .int v2), (0, .ref (dad g p0)), (1, .int p1), (2, .ref (dad g p2))]) S.1 S.2.1 dX10_seekPairs_4 rfl hl (by decide) rfl (fun ls hl => ?_)
  refine lv_iconst (v := 0) S.1 S.2.1 dX10_seekPairs_5 (by decide) ?_
  refine lv_istore (lv' := [(4, .int 0), (3, .int v2), (0, .ref (dad g p0)), (1, .int p1), (2, .ref (dad g p2))]) S.1 S.2.1 dX10_seekPairs_6 hl (by decide) rfl (fun ls hl => ?_)
  obtain ⟨qL3, hqL3, h⟩ := d_b h
  refine d_lp (Hd := fun q => match q with | (v4, m5) => ∀ (H : Heap) (locs : List Loc) (ls : Array Slot), va_P g.1 vwCl (dws g m5) H → va_S (dA g) s.heap H locs → lv_has ls 6 [(4, .int v4), (3, .int v2), (0, .ref (dad g p0)), (1, .int p1), (2, .ref (dad g p2))] → W p l e (headSpec wsX10_seekPairs (dRm 4 97)).room s mth (([.ref (dad g p0), .int p1, .ref (dad g p2)] : List Value).toArray) below meth c H locs 0 0 (MQ below (dQV g m0) (([.ref (dad g p0), .int p1, .ref (dad g p2)] : List Value).toArray) s 0 0 (dA g)) (F0 mth 8 ls [])) (K := fun q => (fun (m94 : _) => ∀ (H : Heap) (locs : List Loc) (ls : Array Slot), va_P g.1 vwCl (dws g m94) H → va_S (dA g) s.heap H locs → lv_has ls 6 [] → W p l e (headSpec wsX10_seekPairs (dRm 4 97)).room s mth (([.ref (dad g p0), .int p1, .ref (dad g p2)] : List Value).toArray) below meth c H locs 0 0 (MQ below (dQV g m0) (([.ref (dad g p0), .int p1, .ref (dad g p2)] : List Value).toArray) s 0 0 (dA g)) (F0 mth 89 ls [])) q) ?_ dFl _ qL3 hqL3 ?_ H locs ls hP hS (lv_sub hl [0, 1, 2, 3, 4] rfl)
  · intro q o h hCL3 hEL3
    obtain ⟨v4, m5⟩ := q
    have h : fX10_seekPairs_l8 p0 p1 p2 v2 v4 m5 = some o := h
    intro H locs ls hP hS hl
    have hP : va_P g.1 vwCl (dws g m5) H := hP
    have hl : lv_has ls 6 [(4, .int v4), (3, .int v2), (0, .ref (dad g p0)), (1, .int p1), (2, .ref (dad g p2))] := hl
    unfold fX10_seekPairs_l8 at h
    refine lv_iload S.1 S.2.1 dX10_seekPairs_8 (lv_at hl 0 rfl) ?_
    refine lv_iload_n S.1 S.2.1 dX10_seekPairs_10 rfl (lv_at hl 1 rfl) ?_
    refine lv_icmp_ge (tgt := 89) S.1 S.2.1 dX10_seekPairs_11 (by decide) (fun cq => ?_) (fun cq => ?_)
    · have h := d_t cq h
      obtain rfl := Option.some.inj h
      exact hEL3 _ rfl H locs ls hP hS (lv_sub hl [] rfl)
    · have h := d_f cq h
      refine lv_iload S.1 S.2.1 dX10_seekPairs_14 (lv_at hl 0 rfl) ?_
      refine lv_iconst (v := 1) S.1 S.2.1 dX10_seekPairs_16 (by decide) ?_
      refine lv_iadd S.1 S.2.1 dX10_seekPairs_17 ?_
      refine lv_topi (fun v50 ev50 => ?_)
      have h := d_let ev50 h
      refine lv_istore (lv' := [(5, .int v50), (4, .int v4), (3, .int v2), (0, .ref (dad g p0)), (1, .int p1), (2, .ref (dad g p2))]) S.1 S.2.1 dX10_seekPairs_18 hl (by decide) rfl (fun ls hl => ?_)
      obtain ⟨qL51, hqL51, h⟩ := d_b h
      refine d_lp (Hd := fun q => match q with | (v52, m53) => ∀ (H : Heap) (locs : List Loc) (ls : Array Slot), va_P g.1 vwCl (dws g m53) H → va_S (dA g) s.heap H locs → lv_has ls 6 [(5, .int v52), (4, .int v4), (3, .int v2), (0, .ref (dad g p0)), (1, .int p1), (2, .ref (dad g p2))] → W p l e (headSpec wsX10_seekPairs (dRm 4 97)).room s mth (([.ref (dad g p0), .int p1, .ref (dad g p2)] : List Value).toArray) below meth c H locs 0 0 (MQ below (dQV g m0) (([.ref (dad g p0), .int p1, .ref (dad g p2)] : List Value).toArray) s 0 0 (dA g)) (F0 mth 20 ls [])) (K := fun q => (fun (m92 : _) => ∀ (H : Heap) (locs : List Loc) (ls : Array Slot), va_P g.1 vwCl (dws g m92) H → va_S (dA g) s.heap H locs → lv_has ls 6 [(0, .ref (dad g p0)), (1, .int p1), (2, .ref (dad g p2)), (3, .int v2), (4, .int v4)] → W p l e (headSpec wsX10_seekPairs (dRm 4 97)).room s mth (([.ref (dad g p0), .int p1, .ref (dad g p2)] : List Value).toArray) below meth c H locs 0 0 (MQ below (dQV g m0) (([.ref (dad g p0), .int p1, .ref (dad g p2)] : List Value).toArray) s 0 0 (dA g)) (F0 mth 83 ls [])) q) ?_ dFl _ qL51 hqL51 ?_ H locs ls hP hS (lv_sub hl [0, 1, 2, 3, 4, 5] rfl)
      · intro q o h hCL51 hEL51
        obtain ⟨v52, m53⟩ := q
        have h : fX10_seekPairs_l20 p0 p1 p2 v2 v4 v52 m53 = some o := h
        intro H locs ls hP hS hl
        have hP : va_P g.1 vwCl (dws g m53) H := hP
        have hl : lv_has ls 6 [(5, .int v52), (4, .int v4), (3, .int v2), (0, .ref (dad g p0)), (1, .int p1), (2, .ref (dad g p2))] := hl
        unfold fX10_seekPairs_l20 at h
        refine lv_iload S.1 S.2.1 dX10_seekPairs_20 (lv_at hl 0 rfl) ?_
        refine lv_iload_n S.1 S.2.1 dX10_seekPairs_22 rfl (lv_at hl 2 rfl) ?_
        refine lv_icmp_ge (tgt := 83) S.1 S.2.1 dX10_seekPairs_23 (by decide) (fun cq => ?_) (fun cq => ?_)
        · have h := d_t cq h
          obtain rfl := Option.some.inj h
          exact hEL51 _ rfl H locs ls hP hS (lv_sub hl [3, 4, 5, 2, 1] rfl)
        · have h := d_f cq h
          refine lv_aload_n S.1 S.2.1 dX10_seekPairs_26 rfl (lv_at hl 5 rfl) ?_
          refine lv_iload S.1 S.2.1 dX10_seekPairs_27 (lv_at hl 1 rfl) ?_
          obtain ⟨v74, hc73, h⟩ := d_b h
          refine dri (va_runV (As := [.int v4]) (rest := []) S (kX1_marches l g hc73) (cwV 1 S.2.2.2.2 gX10_seekPairs_X1_marches rfl rfl rfl ynX1_marches ⟨Nat.le_of_ble_eq_true rfl, Nat.le_of_ble_eq_true rfl⟩) (dpV hE hP hS (ci := 1) rfl (dat2 k2)) rfl rfl hl.1 rfl (lv_room (Nat.le_of_ble_eq_true rfl)) dX10_seekPairs_29 ⟨Nat.le_of_ble_eq_true rfl, Nat.le_of_ble_eq_true rfl⟩) hS (fun H locs hP hS => ?_)
          refine lv_if_eq (tgt := 83) S.1 S.2.1 dX10_seekPairs_32 (by decide) (fun cq => ?_) (fun cq => ?_)
          · have h := d_t cq h
            obtain rfl := Option.some.inj h
            exact hEL51 _ rfl H locs ls hP hS (lv_sub hl [3, 4, 5, 2, 1] rfl)
          · have h := d_f cq h
            refine lv_iload_n S.1 S.2.1 dX10_seekPairs_35 rfl (lv_at hl 4 rfl) ?_
            refine lv_iconst (v := 1) S.1 S.2.1 dX10_seekPairs_36 (by decide) ?_
            refine lv_icmp_ne (tgt := 60) S.1 S.2.1 dX10_seekPairs_37 (by decide) (fun cq => ?_) (fun cq => ?_)
            · have h := d_f cq h
              refine lv_aload_n S.1 S.2.1 dX10_seekPairs_60 rfl (lv_at hl 5 rfl) ?_
              refine lv_iload S.1 S.2.1 dX10_seekPairs_61 (lv_at hl 0 rfl) ?_
              obtain ⟨v76, hc75, h⟩ := d_b h
              refine dri (va_runV (As := [.int v52]) (rest := []) S (kX1_marches l g hc75) (cwV 1 S.2.2.2.2 gX10_seekPairs_X1_marches rfl rfl rfl ynX1_marches ⟨Nat.le_of_ble_eq_true rfl, Nat.le_of_ble_eq_true rfl⟩) (dpV hE hP hS (ci := 1) rfl (dat2 k2)) rfl rfl hl.1 rfl (lv_room (Nat.le_of_ble_eq_true rfl)) dX10_seekPairs_63 ⟨Nat.le_of_ble_eq_true rfl, Nat.le_of_ble_eq_true rfl⟩) hS (fun H locs hP hS => ?_)
              refine lv_if_eq (tgt := 77) S.1 S.2.1 dX10_seekPairs_66 (by decide) (fun cq => ?_) (fun cq => ?_)
              · have h := d_t cq h
                obtain ⟨v77, ev77⟩ : ∃ z : Int32, z = v52 + 1 := ⟨_, rfl⟩
                have h := d_let ev77 h
                refine lv_iinc (v := v77) (lv' := [(5, .int v77), (4, .int v4), (3, .int v2), (0, .ref (dad g p0)), (1, .int p1), (2, .ref (dad g p2))]) S.1 S.2.1 dX10_seekPairs_77 hl (k := 0) rfl (by rw [ev77]; rfl) (by decide) rfl (fun ls hl => ?_)
                refine lv_goto (tgt := 20) S.1 S.2.1 dX10_seekPairs_80 (by decide) ?_
                obtain rfl := Option.some.inj h
                exact hCL51 _ rfl H locs ls hP hS (lv_sub hl [0, 1, 2, 3, 4, 5] rfl)
              · have h := d_f cq h
                refine lv_aload_n S.1 S.2.1 dX10_seekPairs_69 rfl (lv_at hl 3 rfl) ?_
                refine lv_iload S.1 S.2.1 dX10_seekPairs_70 (lv_at hl 1 rfl) ?_
                refine lv_iload S.1 S.2.1 dX10_seekPairs_72 (lv_at hl 0 rfl) ?_
                obtain ⟨m79, hc78, h⟩ := d_b h
                refine drv (va_runV (As := [.int v4, .int v52]) (rest := []) S (kX10_seekCrossing l g hc78) (cwV 2 S.2.2.2.2 gX10_seekPairs_X10_seekCrossing rfl rfl rfl ynX10_seekCrossing ⟨Nat.le_of_ble_eq_true rfl, Nat.le_of_ble_eq_true rfl⟩) (dpV hE hP hS (ci := 10) rfl (dat11 k0)) rfl rfl hl.1 rfl (lv_room (Nat.le_of_ble_eq_true rfl)) dX10_seekPairs_74 ⟨Nat.le_of_ble_eq_true rfl, Nat.le_of_ble_eq_true rfl⟩) hS (fun H locs hP hS => ?_)
                obtain ⟨v80, ev80⟩ : ∃ z : Int32, z = v52 + 1 := ⟨_, rfl⟩
                have h := d_let ev80 h
                refine lv_iinc (v := v80) (lv' := [(5, .int v80), (4, .int v4), (3, .int v2), (0, .ref (dad g p0)), (1, .int p1), (2, .ref (dad g p2))]) S.1 S.2.1 dX10_seekPairs_77 hl (k := 0) rfl (by rw [ev80]; rfl) (by decide) rfl (fun ls hl => ?_)
                refine lv_goto (tgt := 20) S.1 S.2.1 dX10_seekPairs_80 (by decide) ?_
                obtain rfl := Option.some.inj h
                exact hCL51 _ rfl H locs ls hP hS (lv_sub hl [0, 1, 2, 3, 4, 5] rfl)
            · have h := d_t cq h
              refine lv_aload_n S.1 S.2.1 dX10_seekPairs_40 rfl (lv_at hl 5 rfl) ?_
              refine lv_iload S.1 S.2.1 dX10_seekPairs_41 (lv_at hl 0 rfl) ?_
              obtain ⟨v82, hc81, h⟩ := d_b h
              refine dri (va_runV (As := [.int v52]) (rest := []) S (kX1_marches l g hc81) (cwV 1 S.2.2.2.2 gX10_seekPairs_X1_marches rfl rfl rfl ynX1_marches ⟨Nat.le_of_ble_eq_true rfl, Nat.le_of_ble_eq_true rfl⟩) (dpV hE hP hS (ci := 1) rfl (dat2 k2)) rfl rfl hl.1 rfl (lv_room (Nat.le_of_ble_eq_true rfl)) dX10_seekPairs_43 ⟨Nat.le_of_ble_eq_true rfl, Nat.le_of_ble_eq_true rfl⟩) hS (fun H locs hP hS => ?_)
              refine lv_if_eq (tgt := 60) S.1 S.2.1 dX10_seekPairs_46 (by decide) (fun cq => ?_) (fun cq => ?_)
              · have h := d_t cq h
                refine lv_aload_n S.1 S.2.1 dX10_seekPairs_60 rfl (lv_at hl 5 rfl) ?_
                refine lv_iload S.1 S.2.1 dX10_seekPairs_61 (lv_at hl 0 rfl) ?_
                obtain ⟨v84, hc83, h⟩ := d_b h
                refine dri (va_runV (As := [.int v52]) (rest := []) S (kX1_marches l g hc83) (cwV 1 S.2.2.2.2 gX10_seekPairs_X1_marches rfl rfl rfl ynX1_marches ⟨Nat.le_of_ble_eq_true rfl, Nat.le_of_ble_eq_true rfl⟩) (dpV hE hP hS (ci := 1) rfl (dat2 k2)) rfl rfl hl.1 rfl (lv_room (Nat.le_of_ble_eq_true rfl)) dX10_seekPairs_63 ⟨Nat.le_of_ble_eq_true rfl, Nat.le_of_ble_eq_true rfl⟩) hS (fun H locs hP hS => ?_)
                refine lv_if_eq (tgt := 77) S.1 S.2.1 dX10_seekPairs_66 (by decide) (fun cq => ?_) (fun cq => ?_)
                · have h := d_t cq h
                  obtain ⟨v85, ev85⟩ : ∃ z : Int32, z = v52 + 1 := ⟨_, rfl⟩
                  have h := d_let ev85 h
                  refine lv_iinc (v := v85) (lv' := [(5, .int v85), (4, .int v4), (3, .int v2), (0, .ref (dad g p0)), (1, .int p1), (2, .ref (dad g p2))]) S.1 S.2.1 dX10_seekPairs_77 hl (k := 0) rfl (by rw [ev85]; rfl) (by decide) rfl (fun ls hl => ?_)
                  refine lv_goto (tgt := 20) S.1 S.2.1 dX10_seekPairs_80 (by decide) ?_
                  obtain rfl := Option.some.inj h
                  exact hCL51 _ rfl H locs ls hP hS (lv_sub hl [0, 1, 2, 3, 4, 5] rfl)
                · have h := d_f cq h
                  refine lv_aload_n S.1 S.2.1 dX10_seekPairs_69 rfl (lv_at hl 3 rfl) ?_
                  refine lv_iload S.1 S.2.1 dX10_seekPairs_70 (lv_at hl 1 rfl) ?_
                  refine lv_iload S.1 S.2.1 dX10_seekPairs_72 (lv_at hl 0 rfl) ?_
                  obtain ⟨m87, hc86, h⟩ := d_b h
                  refine drv (va_runV (As := [.int v4, .int v52]) (rest := []) S (kX10_seekCrossing l g hc86) (cwV 2 S.2.2.2.2 gX10_seekPairs_X10_seekCrossing rfl rfl rfl ynX10_seekCrossing ⟨Nat.le_of_ble_eq_true rfl, Nat.le_of_ble_eq_true rfl⟩) (dpV hE hP hS (ci := 10) rfl (dat11 k0)) rfl rfl hl.1 rfl (lv_room (Nat.le_of_ble_eq_true rfl)) dX10_seekPairs_74 ⟨Nat.le_of_ble_eq_true rfl, Nat.le_of_ble_eq_true rfl⟩) hS (fun H locs hP hS => ?_)
                  obtain ⟨v88, ev88⟩ : ∃ z : Int32, z = v52 + 1 := ⟨_, rfl⟩
                  have h := d_let ev88 h
                  refine lv_iinc (v := v88) (lv' := [(5, .int v88), (4, .int v4), (3, .int v2), (0, .ref (dad g p0)), (1, .int p1), (2, .ref (dad g p2))]) S.1 S.2.1 dX10_seekPairs_77 hl (k := 0) rfl (by rw [ev88]; rfl) (by decide) rfl (fun ls hl => ?_)
                  refine lv_goto (tgt := 20) S.1 S.2.1 dX10_seekPairs_80 (by decide) ?_
                  obtain rfl := Option.some.inj h
                  exact hCL51 _ rfl H locs ls hP hS (lv_sub hl [0, 1, 2, 3, 4, 5] rfl)
              · have h := d_f cq h
                refine lv_aload_n S.1 S.2.1 dX10_seekPairs_49 rfl (lv_at hl 3 rfl) ?_
                refine lv_iload S.1 S.2.1 dX10_seekPairs_50 (lv_at hl 1 rfl) ?_
                refine lv_iload S.1 S.2.1 dX10_seekPairs_52 (lv_at hl 0 rfl) ?_
                obtain ⟨m90, hc89, h⟩ := d_b h
                refine drv (va_runV (As := [.int v4, .int v52]) (rest := []) S (kX10_seekNear l g hc89) (cwV 2 S.2.2.2.2 gX10_seekPairs_X10_seekNear rfl rfl rfl ynX10_seekNear ⟨Nat.le_of_ble_eq_true rfl, Nat.le_of_ble_eq_true rfl⟩) (dpV hE hP hS (ci := 10) rfl (dat11 k0)) rfl rfl hl.1 rfl (lv_room (Nat.le_of_ble_eq_true rfl)) dX10_seekPairs_54 ⟨Nat.le_of_ble_eq_true rfl, Nat.le_of_ble_eq_true rfl⟩) hS (fun H locs hP hS => ?_)
                refine lv_goto (tgt := 77) S.1 S.2.1 dX10_seekPairs_57 (by decide) ?_
                obtain ⟨v91, ev91⟩ : ∃ z : Int32, z = v52 + 1 := ⟨_, rfl⟩
                have h := d_let ev91 h
                refine lv_iinc (v := v91) (lv' := [(5, .int v91), (4, .int v4), (3, .int v2), (0, .ref (dad g p0)), (1, .int p1), (2, .ref (dad g p2))]) S.1 S.2.1 dX10_seekPairs_77 hl (k := 0) rfl (by rw [ev91]; rfl) (by decide) rfl (fun ls hl => ?_)
                refine lv_goto (tgt := 20) S.1 S.2.1 dX10_seekPairs_80 (by decide) ?_
                obtain rfl := Option.some.inj h
                exact hCL51 _ rfl H locs ls hP hS (lv_sub hl [0, 1, 2, 3, 4, 5] rfl)
      · obtain ⟨m92, rfl⟩ : ∃ z, z = qL51 := ⟨_, rfl⟩
        have h := d_p1 h
        intro H locs ls hP hS hl
        have hP : va_P g.1 vwCl (dws g m92) H := hP
        have hl : lv_has ls 6 [(0, .ref (dad g p0)), (1, .int p1), (2, .ref (dad g p2)), (3, .int v2), (4, .int v4)] := hl
        obtain ⟨v93, ev93⟩ : ∃ z : Int32, z = v4 + 1 := ⟨_, rfl⟩
        have h := d_let ev93 h
        refine lv_iinc (v := v93) (lv' := [(4, .int v93), (0, .ref (dad g p0)), (1, .int p1), (2, .ref (dad g p2)), (3, .int v2)]) S.1 S.2.1 dX10_seekPairs_83 hl (k := 4) rfl (by rw [ev93]; rfl) (by decide) rfl (fun ls hl => ?_)
        refine lv_goto (tgt := 8) S.1 S.2.1 dX10_seekPairs_86 (by decide) ?_
        obtain rfl := Option.some.inj h
        exact hCL3 _ rfl H locs ls hP hS (lv_sub hl [0, 4, 1, 2, 3] rfl)
  · obtain ⟨m94, rfl⟩ : ∃ z, z = qL3 := ⟨_, rfl⟩
    have h := d_p1 h
    intro H locs ls hP hS hl
    have hP : va_P g.1 vwCl (dws g m94) H := hP
    have hl : lv_has ls 6 [] := hl
    obtain rfl := Option.some.inj h
    exact dtv S hr hlk hE hP hS dX10_seekPairs_89
set_option maxRecDepth 20000 in
theorem ggX10_look_X1_number : GoodIn wsX10_look wsX1_number := goodIn_r _ [7, 8, 135, 136, 137, 138, 139] (by decide +kernel) (by decide +kernel)
set_option maxRecDepth 20000 in
theorem gX10_look_X1_number : GoodIn wsX10_look (wsV RX10 29 RX1 yX1_number wsX1_number) := goodIn_app (goodIn_of _ (by decide +kernel)) ggX10_look_X1_number
set_option maxRecDepth 20000 in
theorem ggX10_look_X2_clear : GoodIn wsX10_look wsX2_clear := goodIn_r _ [13, 14, 15, 16, 12, 17, 18, 19, 20, 21, 140, 141, 142, 143] (by decide +kernel) (by decide +kernel)
set_option maxRecDepth 20000 in
theorem gX10_look_X2_clear : GoodIn wsX10_look (wsV RX10 35 RX2 yX2_clear wsX2_clear) := goodIn_app (goodIn_of _ (by decide +kernel)) ggX10_look_X2_clear
set_option maxRecDepth 20000 in
theorem ggX10_look_X5_counts : GoodIn wsX10_look wsX5_counts := goodIn_r _ [26, 27, 144, 145, 146, 147, 148, 149, 150] (by decide +kernel) (by decide +kernel)
set_option maxRecDepth 20000 in
theorem gX10_look_X5_counts : GoodIn wsX10_look (wsV RX10 38 RX5 yX5_counts wsX5_counts) := goodIn_app (goodIn_of _ (by decide +kernel)) ggX10_look_X5_counts
set_option maxRecDepth 20000 in
theorem ggX10_look_X10_standAt : GoodIn wsX10_look wsX10_standAt := goodIn_r _ [32, 33, 34, 35, 36, 37, 131, 132, 133, 134] (by decide +kernel) (by decide +kernel)
set_option maxRecDepth 20000 in
theorem gX10_look_X10_standAt : GoodIn wsX10_look (wsV RX10 47 RX10 yX10_standAt wsX10_standAt) := goodIn_app (goodIn_of _ (by decide +kernel)) ggX10_look_X10_standAt
set_option maxRecDepth 20000 in
theorem ggX10_look_X5_stand : GoodIn wsX10_look wsX5_stand := goodIn_r _ [41, 42, 43, 44, 25, 45, 46, 47, 27, 48, 49, 50, 51, 52, 53, 54, 36, 55, 56, 57, 58, 59, 60, 61, 62, 63, 64, 65, 66, 67, 68, 69, 70, 71, 72, 73, 74, 144, 145, 146, 147, 148, 149, 150, 151, 152] (by decide +kernel) (by decide +kernel)
set_option maxRecDepth 20000 in
theorem gX10_look_X5_stand : GoodIn wsX10_look (wsV RX10 51 RX5 yX5_stand wsX5_stand) := goodIn_app (goodIn_of _ (by decide +kernel)) ggX10_look_X5_stand
set_option maxRecDepth 20000 in
theorem ggX10_look_X1_marches : GoodIn wsX10_look wsX1_marches := goodIn_r _ [78, 79, 80, 81, 54, 36, 55, 135, 136, 137, 138, 139] (by decide +kernel) (by decide +kernel)
set_option maxRecDepth 20000 in
theorem gX10_look_X1_marches : GoodIn wsX10_look (wsV RX10 55 RX1 yX1_marches wsX1_marches) := goodIn_app (goodIn_of _ (by decide +kernel)) ggX10_look_X1_marches
set_option maxRecDepth 20000 in
theorem ggX10_look_X5_tempo : GoodIn wsX10_look wsX5_tempo := goodIn_r _ [85, 86, 144, 145, 146, 147, 148, 149, 150] (by decide +kernel) (by decide +kernel)
set_option maxRecDepth 20000 in
theorem gX10_look_X5_tempo : GoodIn wsX10_look (wsV RX10 59 RX5 yX5_tempo wsX5_tempo) := goodIn_app (goodIn_of _ (by decide +kernel)) ggX10_look_X5_tempo
set_option maxRecDepth 20000 in
theorem ggX10_look_X1_stepSquare : GoodIn wsX10_look wsX1_stepSquare := goodIn_r _ [90, 91, 92, 93, 6, 94, 95, 54, 36, 55, 56, 57, 58, 59, 60, 61, 135, 136, 137, 138, 139] (by decide +kernel) (by decide +kernel)
set_option maxRecDepth 20000 in
theorem gX10_look_X1_stepSquare : GoodIn wsX10_look (wsV RX10 62 RX1 yX1_stepSquare wsX1_stepSquare) := goodIn_app (goodIn_of _ (by decide +kernel)) ggX10_look_X1_stepSquare
set_option maxRecDepth 20000 in
theorem ggX10_look_X10_seekStep : GoodIn wsX10_look wsX10_seekStep := goodIn_r _ [99, 2, 28, 29, 30, 31, 32, 33, 34, 35, 36, 37, 100, 101, 102, 51, 103, 53, 70, 54, 55, 104, 105, 106, 107, 108, 109, 1, 110, 15, 16, 12, 17, 18, 19, 20, 21, 131, 132, 133, 134, 151, 152, 140, 141, 142, 143] (by decide +kernel) (by decide +kernel)
set_option maxRecDepth 20000 in
theorem gX10_look_X10_seekStep : GoodIn wsX10_look (wsV RX10 66 RX10 yX10_seekStep wsX10_seekStep) := goodIn_app (goodIn_of _ (by decide +kernel)) ggX10_look_X10_seekStep
set_option maxRecDepth 20000 in
theorem ggX10_look_X10_seekPairs : GoodIn wsX10_look wsX10_seekPairs := goodIn_r _ [114, 3, 4, 5, 6, 7, 8, 75, 76, 77, 78, 79, 80, 81, 54, 36, 55, 115, 116, 117, 31, 118, 2, 28, 29, 30, 32, 33, 34, 35, 37, 100, 101, 102, 51, 103, 53, 70, 104, 105, 106, 107, 108, 109, 1, 110, 15, 16, 12, 17, 18, 19, 20, 21, 119, 120, 121, 122, 123, 124, 125, 126, 127, 128, 129, 130, 135, 136, 137, 138, 139, 131, 132, 133, 134, 151, 152, 140, 141, 142, 143] (by decide +kernel) (by decide +kernel)
set_option maxRecDepth 20000 in
theorem gX10_look_X10_seekPairs : GoodIn wsX10_look (wsV RX10 70 RX10 yX10_seekPairs wsX10_seekPairs) := goodIn_app (goodIn_of _ (by decide +kernel)) ggX10_look_X10_seekPairs
theorem dX10_look_0 : decode cX10_look 0 = .ok (.aload_n 2, 1) := by decide +kernel
theorem dX10_look_1 : decode cX10_look 1 = .ok (.invokevirtual 29, 3) := by decide +kernel
theorem dX10_look_4 : decode cX10_look 4 = .ok (.istore_n 3, 1) := by decide +kernel
theorem dX10_look_5 : decode cX10_look 5 = .ok (.aload_n 0, 1) := by decide +kernel
theorem dX10_look_6 : decode cX10_look 6 = .ok (.getfield 25, 3) := by decide +kernel
theorem dX10_look_9 : decode cX10_look 9 = .ok (.invokevirtual 35, 3) := by decide +kernel
theorem dX10_look_12 : decode cX10_look 12 = .ok (.aload_n 0, 1) := by decide +kernel
theorem dX10_look_13 : decode cX10_look 13 = .ok (.aload_n 1, 1) := by decide +kernel
theorem dX10_look_14 : decode cX10_look 14 = .ok (.invokevirtual 38, 3) := by decide +kernel
theorem dX10_look_17 : decode cX10_look 17 = .ok (.iconst 1, 1) := by decide +kernel
theorem dX10_look_18 : decode cX10_look 18 = .ok (.iadd, 1) := by decide +kernel
theorem dX10_look_19 : decode cX10_look 19 = .ok (.putfield 43, 3) := by decide +kernel
theorem dX10_look_22 : decode cX10_look 22 = .ok (.iconst 0, 1) := by decide +kernel
theorem dX10_look_23 : decode cX10_look 23 = .ok (.istore 4, 2) := by decide +kernel
theorem dX10_look_25 : decode cX10_look 25 = .ok (.iload 4, 2) := by decide +kernel
theorem dX10_look_27 : decode cX10_look 27 = .ok (.aload_n 0, 1) := by decide +kernel
theorem dX10_look_28 : decode cX10_look 28 = .ok (.getfield 43, 3) := by decide +kernel
theorem dX10_look_31 : decode cX10_look 31 = .ok (.if_icmp .ge 22, 3) := by decide +kernel
theorem dX10_look_34 : decode cX10_look 34 = .ok (.aload_n 1, 1) := by decide +kernel
theorem dX10_look_35 : decode cX10_look 35 = .ok (.iload 4, 2) := by decide +kernel
theorem dX10_look_37 : decode cX10_look 37 = .ok (.aload_n 0, 1) := by decide +kernel
theorem dX10_look_38 : decode cX10_look 38 = .ok (.iload 4, 2) := by decide +kernel
theorem dX10_look_40 : decode cX10_look 40 = .ok (.invokevirtual 47, 3) := by decide +kernel
theorem dX10_look_43 : decode cX10_look 43 = .ok (.iload_n 3, 1) := by decide +kernel
theorem dX10_look_44 : decode cX10_look 44 = .ok (.invokevirtual 51, 3) := by decide +kernel
theorem dX10_look_47 : decode cX10_look 47 = .ok (.iinc 4 1, 3) := by decide +kernel
theorem dX10_look_50 : decode cX10_look 50 = .ok (.goto (-25), 3) := by decide +kernel
theorem dX10_look_53 : decode cX10_look 53 = .ok (.iconst 0, 1) := by decide +kernel
theorem dX10_look_54 : decode cX10_look 54 = .ok (.istore 4, 2) := by decide +kernel
theorem dX10_look_56 : decode cX10_look 56 = .ok (.iload 4, 2) := by decide +kernel
theorem dX10_look_58 : decode cX10_look 58 = .ok (.iload_n 3, 1) := by decide +kernel
theorem dX10_look_59 : decode cX10_look 59 = .ok (.if_icmp .ge 34, 3) := by decide +kernel
theorem dX10_look_62 : decode cX10_look 62 = .ok (.aload_n 2, 1) := by decide +kernel
theorem dX10_look_63 : decode cX10_look 63 = .ok (.iload 4, 2) := by decide +kernel
theorem dX10_look_65 : decode cX10_look 65 = .ok (.invokevirtual 55, 3) := by decide +kernel
theorem dX10_look_68 : decode cX10_look 68 = .ok (.ifCond .eq 19, 3) := by decide +kernel
theorem dX10_look_71 : decode cX10_look 71 = .ok (.aload_n 0, 1) := by decide +kernel
theorem dX10_look_72 : decode cX10_look 72 = .ok (.iload 4, 2) := by decide +kernel
theorem dX10_look_74 : decode cX10_look 74 = .ok (.aload_n 2, 1) := by decide +kernel
theorem dX10_look_75 : decode cX10_look 75 = .ok (.iload 4, 2) := by decide +kernel
theorem dX10_look_77 : decode cX10_look 77 = .ok (.aload_n 1, 1) := by decide +kernel
theorem dX10_look_78 : decode cX10_look 78 = .ok (.invokevirtual 59, 3) := by decide +kernel
theorem dX10_look_81 : decode cX10_look 81 = .ok (.invokevirtual 62, 3) := by decide +kernel
theorem dX10_look_84 : decode cX10_look 84 = .ok (.invokevirtual 66, 3) := by decide +kernel
theorem dX10_look_87 : decode cX10_look 87 = .ok (.iinc 4 1, 3) := by decide +kernel
theorem dX10_look_90 : decode cX10_look 90 = .ok (.goto (-34), 3) := by decide +kernel
theorem dX10_look_93 : decode cX10_look 93 = .ok (.aload_n 0, 1) := by decide +kernel
theorem dX10_look_94 : decode cX10_look 94 = .ok (.iconst 1, 1) := by decide +kernel
theorem dX10_look_95 : decode cX10_look 95 = .ok (.aload_n 2, 1) := by decide +kernel
theorem dX10_look_96 : decode cX10_look 96 = .ok (.invokevirtual 70, 3) := by decide +kernel
theorem dX10_look_99 : decode cX10_look 99 = .ok (.aload_n 0, 1) := by decide +kernel
theorem dX10_look_100 : decode cX10_look 100 = .ok (.iconst 2, 1) := by decide +kernel
theorem dX10_look_101 : decode cX10_look 101 = .ok (.aload_n 2, 1) := by decide +kernel
theorem dX10_look_102 : decode cX10_look 102 = .ok (.invokevirtual 70, 3) := by decide +kernel
theorem dX10_look_105 : decode cX10_look 105 = .ok (.aload_n 0, 1) := by decide +kernel
theorem dX10_look_106 : decode cX10_look 106 = .ok (.getfield 25, 3) := by decide +kernel
theorem dX10_look_109 : decode cX10_look 109 = .ok (.areturn, 1) := by decide +kernel
def fX10_look_l25 (p0 : Nat) (p1 : Nat) (v2 : Int32) (v9 : Int32) (m10 : dM) : Option ((Int32 × dM) ⊕ dM) := if (m10.1 p0 3) ≤ v9 then some (.inr m10) else (fX10_standAt m10 p0 v9).bind (fun v18 => dg (dkg v18 10) ((fX5_stand m10 p1 v9 v18 v2).bind (fun m21 => dlet (v9 + 1 : Int32) (fun v22 => some (.inl (v22, m21))))))
def fX10_look_l56 (p0 : Nat) (p1 : Nat) (p2 : Nat) (v2 : Int32) (v25 : Int32) (m26 : dM) : Option ((Int32 × dM) ⊕ dM) := if v2 ≤ v25 then some (.inr m26) else (fX1_marches m26 p2 v25).bind (fun v38 => if v38 = 0 then dlet (v25 + 1 : Int32) (fun v39 => some (.inl (v39, m26))) else (fX5_tempo m26 p1).bind (fun v41 => (fX1_stepSquare m26 p2 v25 v41).bind (fun v43 => (fX10_seekStep m26 p0 v25 v43).bind (fun m45 => dlet (v25 + 1 : Int32) (fun v46 => some (.inl (v46, m45)))))))
def fX10_look (m : dM) (p0 : Nat) (p1 : Nat) (p2 : Nat) : Option (Nat × dM) := dg (dkg p0 11) (dg (dkg p1 6) (dg (dkg p2 2) ((fX1_number m p2).bind (fun v2 => (fX2_clear m 371).bind (fun m4 => (fX5_counts m4 p1).bind (fun v6 => dlet (d1 m4 p0 3 (v6 + 1)) (fun m7 => (dlp (fun q => dP2 q (fun v9 m10 => fX10_look_l25 p0 p1 v2 v9 m10)) dFl (0, m7)).bind (fun q => dP1 q (fun m23 => (dlp (fun q => dP2 q (fun v25 m26 => fX10_look_l56 p0 p1 p2 v2 v25 m26)) dFl (0, m23)).bind (fun q => dP1 q (fun m47 => (fX10_seekPairs m47 p0 1 p2).bind (fun m49 => (fX10_seekPairs m49 p0 2 p2).bind (fun m51 => some (371, m51))))))))))))))
set_option maxHeartbeats 4000000 in
set_option maxRecDepth 100000 in
theorem kX10_look (l : Launch) (g : dG) {m : dM} {p0 : Nat} {p1 : Nat} {p2 : Nat} {r0 : Nat} {m0 : dM} (h : fX10_look m p0 p1 p2 = some (r0, m0)) : dMet l g yX10_look wsX10_look (dRm 5 122) [.ref (dad g p0), .ref (dad g p1), .ref (dad g p2)] m (dQR g r0 m0) := by
  refine dof (cc := cX10_look) (maxL := 5) (ret := (some (.object "DrillField$Fault"))) _ (plainFor_of_name (by decide)) rfl (Nat.le_of_ble_eq_true rfl) ?_
  intro p e s mth below meth c S hr hlk hE H ls hP hS hl
  have S : CallFix p mth c cX10_look 5 s _ wsX10_look RX10 := S
  have hl : lv_has ls 5 [(0, .ref (dad g p0)), (1, .ref (dad g p1)), (2, .ref (dad g p2))] := hl
  obtain ⟨locs, hlocs⟩ : ∃ z : List Loc, z = [] := ⟨_, rfl⟩
  rw [← hlocs] at hS ⊢
  have in10 : ∀ w ∈ wsX100, w ∈ wsX10_look := by decide +kernel
  unfold fX10_look at h
  obtain ⟨k0, h⟩ := d_g h
  have k0 := d_k k0
  obtain ⟨k1, h⟩ := d_g h
  have k1 := d_k k1
  obtain ⟨k2, h⟩ := d_g h
  have k2 := d_k k2
  refine lv_aload_n S.1 S.2.1 dX10_look_0 rfl (lv_at hl 2 rfl) ?_
  obtain ⟨v2, hc1, h⟩ := d_b h
  refine dri (va_runV (As := []) (rest := []) S (kX1_number l g hc1) (cwV 0 S.2.2.2.2 gX10_look_X1_number rfl rfl rfl ynX1_number ⟨Nat.le_of_ble_eq_true rfl, Nat.le_of_ble_eq_true rfl⟩) (dpV hE hP hS (ci := 1) rfl (dat2 k2)) rfl rfl hl.1 rfl (lv_room (Nat.le_of_ble_eq_true rfl)) dX10_look_1 ⟨Nat.le_of_ble_eq_true rfl, Nat.le_of_ble_eq_true rfl⟩) hS (fun H locs hP hS => ?_)
  refine lv_istore_n (lv' := [(3, .int v2), (0, .ref (dad g p0)), (1, .ref (dad g p1)), (2, .ref (dad g p2))]) S.1 S.2.1 dX10_look_4 rfl hl (by decide) rfl (fun ls hl => ?_)
  refine lv_aload_n S.1 S.2.1 dX10_look_5 rfl (lv_at hl 1 rfl) ?_
  refine dgf10_2 S in10 hE hP k0 (S.2.2.2.2 (.fieldLink RX10 25 "DrillField$Watch" "found" "LDrillField$Fault;") (List.mem_of_getElem? (i := 1) rfl)) dX10_look_6 ?_
  obtain ⟨m4, hc3, h⟩ := d_b h
  refine drv (va_runV (As := []) (rest := []) S (kX2_clear l g hc3) (cwV 0 S.2.2.2.2 gX10_look_X2_clear rfl rfl rfl ynX2_clear ⟨Nat.le_of_ble_eq_true rfl, Nat.le_of_ble_eq_true rfl⟩) (dpV hE hP hS (ci := 2) rfl (dat3 dk_371)) rfl rfl hl.1 rfl (lv_room (Nat.le_of_ble_eq_true rfl)) dX10_look_9 ⟨Nat.le_of_ble_eq_true rfl, Nat.le_of_ble_eq_true rfl⟩) hS (fun H locs hP hS => ?_)
  refine lv_aload_n S.1 S.2.1 dX10_look_12 rfl (lv_at hl 1 rfl) ?_
  refine lv_aload_n S.1 S.2.1 dX10_look_13 rfl (lv_at hl 2 rfl) ?_
  obtain ⟨v6, hc5, h⟩ := d_b h
  refine dri (va_runV (As := []) (rest := [.ref (dad g p0)]) S (kX5_counts l g hc5) (cwV 0 S.2.2.2.2 gX10_look_X5_counts rfl rfl rfl ynX5_counts ⟨Nat.le_of_ble_eq_true rfl, Nat.le_of_ble_eq_true rfl⟩) (dpV hE hP hS (ci := 5) rfl (dat6 k1)) rfl rfl hl.1 rfl (lv_room (Nat.le_of_ble_eq_true rfl)) dX10_look_14 ⟨Nat.le_of_ble_eq_true rfl, Nat.le_of_ble_eq_true rfl⟩) hS (fun H locs hP hS => ?_)
  refine lv_iconst (v := 1) S.1 S.2.1 dX10_look_17 (by decide) ?_
  refine lv_iadd S.1 S.2.1 dX10_look_18 ?_
  refine dpf10_3 S in10 hE hP hS k0 (S.2.2.2.2 (.fieldLink RX10 43 "DrillField$Watch" "openEnd" "I") (List.mem_of_getElem? (i := 2) rfl)) dX10_look_19 (fun H locs hP hS => ?_)
  obtain ⟨m7, em7⟩ : ∃ z : dM, z = d1 m4 p0 3 (v6 + 1) := ⟨_, rfl⟩
  have h := d_let em7 h
  rw [← em7] at hP
  refine lv_iconst (v := 0) S.1 S.2.1 dX10_look_22 (by decide) ?_
  refine lv_istore (lv' := [(4, .int 0), (3, .int v2), (0, .ref (dad g p0)), (1, .ref (dad g p1)), (2, .ref (dad g p2))]) S.1 S.2.1 dX10_look_23 hl (by decide) rfl (fun ls hl => ?_)
  obtain ⟨qL8, hqL8, h⟩ := d_b h
  refine d_lp (Hd := fun q => match q with | (v9, m10) => ∀ (H : Heap) (locs : List Loc) (ls : Array Slot), va_P g.1 vwCl (dws g m10) H → va_S (dA g) s.heap H locs → lv_has ls 5 [(4, .int v9), (3, .int v2), (0, .ref (dad g p0)), (1, .ref (dad g p1)), (2, .ref (dad g p2))] → W p l e (headSpec wsX10_look (dRm 5 122)).room s mth (([.ref (dad g p0), .ref (dad g p1), .ref (dad g p2)] : List Value).toArray) below meth c H locs 0 0 (MQ below (dQR g r0 m0) (([.ref (dad g p0), .ref (dad g p1), .ref (dad g p2)] : List Value).toArray) s 0 0 (dA g)) (F0 mth 25 ls [])) (K := fun q => (fun (m23 : _) => ∀ (H : Heap) (locs : List Loc) (ls : Array Slot), va_P g.1 vwCl (dws g m23) H → va_S (dA g) s.heap H locs → lv_has ls 5 [(0, .ref (dad g p0)), (1, .ref (dad g p1)), (2, .ref (dad g p2)), (3, .int v2)] → W p l e (headSpec wsX10_look (dRm 5 122)).room s mth (([.ref (dad g p0), .ref (dad g p1), .ref (dad g p2)] : List Value).toArray) below meth c H locs 0 0 (MQ below (dQR g r0 m0) (([.ref (dad g p0), .ref (dad g p1), .ref (dad g p2)] : List Value).toArray) s 0 0 (dA g)) (F0 mth 53 ls [])) q) ?_ dFl _ qL8 hqL8 ?_ H locs ls hP hS (lv_sub hl [0, 1, 2, 3, 4] rfl)
  · intro q o h hCL8 hEL8
    obtain ⟨v9, m10⟩ := q
    have h : fX10_look_l25 p0 p1 v2 v9 m10 = some o := h
    intro H locs ls hP hS hl
    have hP : va_P g.1 vwCl (dws g m10) H := hP
    have hl : lv_has ls 5 [(4, .int v9), (3, .int v2), (0, .ref (dad g p0)), (1, .ref (dad g p1)), (2, .ref (dad g p2))] := hl
    unfold fX10_look_l25 at h
    refine lv_iload S.1 S.2.1 dX10_look_25 (lv_at hl 0 rfl) ?_
    refine lv_aload_n S.1 S.2.1 dX10_look_27 rfl (lv_at hl 2 rfl) ?_
    refine dgf10_3 S in10 hE hP k0 (S.2.2.2.2 (.fieldLink RX10 43 "DrillField$Watch" "openEnd" "I") (List.mem_of_getElem? (i := 2) rfl)) dX10_look_28 ?_
    refine lv_icmp_ge (tgt := 53) S.1 S.2.1 dX10_look_31 (by decide) (fun cq => ?_) (fun cq => ?_)
    · have h := d_t cq h
      obtain rfl := Option.some.inj h
      exact hEL8 _ rfl H locs ls hP hS (lv_sub hl [2, 3, 4, 1] rfl)
    · have h := d_f cq h
      refine lv_aload_n S.1 S.2.1 dX10_look_34 rfl (lv_at hl 3 rfl) ?_
      refine lv_iload S.1 S.2.1 dX10_look_35 (lv_at hl 0 rfl) ?_
      refine lv_aload_n S.1 S.2.1 dX10_look_37 rfl (lv_at hl 2 rfl) ?_
      refine lv_iload S.1 S.2.1 dX10_look_38 (lv_at hl 0 rfl) ?_
      obtain ⟨v18, hc17, h⟩ := d_b h
      obtain ⟨hk19, h⟩ := d_g h
      have hk19 := d_k hk19
      refine drr (va_runV (As := [.int v9]) (rest := [.int v9, .ref (dad g p1)]) S (kX10_standAt l g hc17) (cwV 1 S.2.2.2.2 gX10_look_X10_standAt rfl rfl rfl ynX10_standAt ⟨Nat.le_of_ble_eq_true rfl, Nat.le_of_ble_eq_true rfl⟩) (dpV hE hP hS (ci := 10) rfl (dat11 k0)) rfl rfl hl.1 rfl (lv_room (Nat.le_of_ble_eq_true rfl)) dX10_look_40 ⟨Nat.le_of_ble_eq_true rfl, Nat.le_of_ble_eq_true rfl⟩) hS (fun H locs hP hS => ?_)
      refine lv_iload_n S.1 S.2.1 dX10_look_43 rfl (lv_at hl 1 rfl) ?_
      obtain ⟨m21, hc20, h⟩ := d_b h
      refine drv (va_runV (As := [.int v9, .ref (dad g v18), .int v2]) (rest := []) S (kX5_stand l g hc20) (cwV 3 S.2.2.2.2 gX10_look_X5_stand rfl rfl rfl ynX5_stand ⟨Nat.le_of_ble_eq_true rfl, Nat.le_of_ble_eq_true rfl⟩) (dpV hE hP hS (ci := 5) rfl (dat6 k1)) rfl rfl hl.1 rfl (lv_room (Nat.le_of_ble_eq_true rfl)) dX10_look_44 ⟨Nat.le_of_ble_eq_true rfl, Nat.le_of_ble_eq_true rfl⟩) hS (fun H locs hP hS => ?_)
      obtain ⟨v22, ev22⟩ : ∃ z : Int32, z = v9 + 1 := ⟨_, rfl⟩
      have h := d_let ev22 h
      refine lv_iinc (v := v22) (lv' := [(4, .int v22), (3, .int v2), (0, .ref (dad g p0)), (1, .ref (dad g p1)), (2, .ref (dad g p2))]) S.1 S.2.1 dX10_look_47 hl (k := 0) rfl (by rw [ev22]; rfl) (by decide) rfl (fun ls hl => ?_)
      refine lv_goto (tgt := 25) S.1 S.2.1 dX10_look_50 (by decide) ?_
      obtain rfl := Option.some.inj h
      exact hCL8 _ rfl H locs ls hP hS (lv_sub hl [0, 1, 2, 3, 4] rfl)
  · obtain ⟨m23, rfl⟩ : ∃ z, z = qL8 := ⟨_, rfl⟩
    have h := d_p1 h
    intro H locs ls hP hS hl
    have hP : va_P g.1 vwCl (dws g m23) H := hP
    have hl : lv_has ls 5 [(0, .ref (dad g p0)), (1, .ref (dad g p1)), (2, .ref (dad g p2)), (3, .int v2)] := hl
    refine lv_iconst (v := 0) S.1 S.2.1 dX10_look_53 (by decide) ?_
    refine lv_istore (lv' := [(4, .int 0), (0, .ref (dad g p0)), (1, .ref (dad g p1)), (2, .ref (dad g p2)), (3, .int v2)]) S.1 S.2.1 dX10_look_54 hl (by decide) rfl (fun ls hl => ?_)
    obtain ⟨qL24, hqL24, h⟩ := d_b h
    refine d_lp (Hd := fun q => match q with | (v25, m26) => ∀ (H : Heap) (locs : List Loc) (ls : Array Slot), va_P g.1 vwCl (dws g m26) H → va_S (dA g) s.heap H locs → lv_has ls 5 [(4, .int v25), (0, .ref (dad g p0)), (1, .ref (dad g p1)), (2, .ref (dad g p2)), (3, .int v2)] → W p l e (headSpec wsX10_look (dRm 5 122)).room s mth (([.ref (dad g p0), .ref (dad g p1), .ref (dad g p2)] : List Value).toArray) below meth c H locs 0 0 (MQ below (dQR g r0 m0) (([.ref (dad g p0), .ref (dad g p1), .ref (dad g p2)] : List Value).toArray) s 0 0 (dA g)) (F0 mth 56 ls [])) (K := fun q => (fun (m47 : _) => ∀ (H : Heap) (locs : List Loc) (ls : Array Slot), va_P g.1 vwCl (dws g m47) H → va_S (dA g) s.heap H locs → lv_has ls 5 [(0, .ref (dad g p0)), (2, .ref (dad g p2))] → W p l e (headSpec wsX10_look (dRm 5 122)).room s mth (([.ref (dad g p0), .ref (dad g p1), .ref (dad g p2)] : List Value).toArray) below meth c H locs 0 0 (MQ below (dQR g r0 m0) (([.ref (dad g p0), .ref (dad g p1), .ref (dad g p2)] : List Value).toArray) s 0 0 (dA g)) (F0 mth 93 ls [])) q) ?_ dFl _ qL24 hqL24 ?_ H locs ls hP hS (lv_sub hl [0, 1, 2, 3, 4] rfl)
    · intro q o h hCL24 hEL24
      obtain ⟨v25, m26⟩ := q
      have h : fX10_look_l56 p0 p1 p2 v2 v25 m26 = some o := h
      intro H locs ls hP hS hl
      have hP : va_P g.1 vwCl (dws g m26) H := hP
      have hl : lv_has ls 5 [(4, .int v25), (0, .ref (dad g p0)), (1, .ref (dad g p1)), (2, .ref (dad g p2)), (3, .int v2)] := hl
      unfold fX10_look_l56 at h
      refine lv_iload S.1 S.2.1 dX10_look_56 (lv_at hl 0 rfl) ?_
      refine lv_iload_n S.1 S.2.1 dX10_look_58 rfl (lv_at hl 4 rfl) ?_
      refine lv_icmp_ge (tgt := 93) S.1 S.2.1 dX10_look_59 (by decide) (fun cq => ?_) (fun cq => ?_)
      · have h := d_t cq h
        obtain rfl := Option.some.inj h
        exact hEL24 _ rfl H locs ls hP hS (lv_sub hl [1, 3] rfl)
      · have h := d_f cq h
        refine lv_aload_n S.1 S.2.1 dX10_look_62 rfl (lv_at hl 3 rfl) ?_
        refine lv_iload S.1 S.2.1 dX10_look_63 (lv_at hl 0 rfl) ?_
        obtain ⟨v38, hc37, h⟩ := d_b h
        refine dri (va_runV (As := [.int v25]) (rest := []) S (kX1_marches l g hc37) (cwV 1 S.2.2.2.2 gX10_look_X1_marches rfl rfl rfl ynX1_marches ⟨Nat.le_of_ble_eq_true rfl, Nat.le_of_ble_eq_true rfl⟩) (dpV hE hP hS (ci := 1) rfl (dat2 k2)) rfl rfl hl.1 rfl (lv_room (Nat.le_of_ble_eq_true rfl)) dX10_look_65 ⟨Nat.le_of_ble_eq_true rfl, Nat.le_of_ble_eq_true rfl⟩) hS (fun H locs hP hS => ?_)
        refine lv_if_eq (tgt := 87) S.1 S.2.1 dX10_look_68 (by decide) (fun cq => ?_) (fun cq => ?_)
        · have h := d_t cq h
          obtain ⟨v39, ev39⟩ : ∃ z : Int32, z = v25 + 1 := ⟨_, rfl⟩
          have h := d_let ev39 h
          refine lv_iinc (v := v39) (lv' := [(4, .int v39), (0, .ref (dad g p0)), (1, .ref (dad g p1)), (2, .ref (dad g p2)), (3, .int v2)]) S.1 S.2.1 dX10_look_87 hl (k := 0) rfl (by rw [ev39]; rfl) (by decide) rfl (fun ls hl => ?_)
          refine lv_goto (tgt := 56) S.1 S.2.1 dX10_look_90 (by decide) ?_
          obtain rfl := Option.some.inj h
          exact hCL24 _ rfl H locs ls hP hS (lv_sub hl [0, 1, 2, 3, 4] rfl)
        · have h := d_f cq h
          refine lv_aload_n S.1 S.2.1 dX10_look_71 rfl (lv_at hl 1 rfl) ?_
          refine lv_iload S.1 S.2.1 dX10_look_72 (lv_at hl 0 rfl) ?_
          refine lv_aload_n S.1 S.2.1 dX10_look_74 rfl (lv_at hl 3 rfl) ?_
          refine lv_iload S.1 S.2.1 dX10_look_75 (lv_at hl 0 rfl) ?_
          refine lv_aload_n S.1 S.2.1 dX10_look_77 rfl (lv_at hl 2 rfl) ?_
          obtain ⟨v41, hc40, h⟩ := d_b h
          refine dri (va_runV (As := []) (rest := [.int v25, .ref (dad g p2), .int v25, .ref (dad g p0)]) S (kX5_tempo l g hc40) (cwV 0 S.2.2.2.2 gX10_look_X5_tempo rfl rfl rfl ynX5_tempo ⟨Nat.le_of_ble_eq_true rfl, Nat.le_of_ble_eq_true rfl⟩) (dpV hE hP hS (ci := 5) rfl (dat6 k1)) rfl rfl hl.1 rfl (lv_room (Nat.le_of_ble_eq_true rfl)) dX10_look_78 ⟨Nat.le_of_ble_eq_true rfl, Nat.le_of_ble_eq_true rfl⟩) hS (fun H locs hP hS => ?_)
          obtain ⟨v43, hc42, h⟩ := d_b h
          refine dri (va_runV (As := [.int v25, .int v41]) (rest := [.int v25, .ref (dad g p0)]) S (kX1_stepSquare l g hc42) (cwV 2 S.2.2.2.2 gX10_look_X1_stepSquare rfl rfl rfl ynX1_stepSquare ⟨Nat.le_of_ble_eq_true rfl, Nat.le_of_ble_eq_true rfl⟩) (dpV hE hP hS (ci := 1) rfl (dat2 k2)) rfl rfl hl.1 rfl (lv_room (Nat.le_of_ble_eq_true rfl)) dX10_look_81 ⟨Nat.le_of_ble_eq_true rfl, Nat.le_of_ble_eq_true rfl⟩) hS (fun H locs hP hS => ?_)
          obtain ⟨m45, hc44, h⟩ := d_b h
          refine drv (va_runV (As := [.int v25, .int v43]) (rest := []) S (kX10_seekStep l g hc44) (cwV 2 S.2.2.2.2 gX10_look_X10_seekStep rfl rfl rfl ynX10_seekStep ⟨Nat.le_of_ble_eq_true rfl, Nat.le_of_ble_eq_true rfl⟩) (dpV hE hP hS (ci := 10) rfl (dat11 k0)) rfl rfl hl.1 rfl (lv_room (Nat.le_of_ble_eq_true rfl)) dX10_look_84 ⟨Nat.le_of_ble_eq_true rfl, Nat.le_of_ble_eq_true rfl⟩) hS (fun H locs hP hS => ?_)
          obtain ⟨v46, ev46⟩ : ∃ z : Int32, z = v25 + 1 := ⟨_, rfl⟩
          have h := d_let ev46 h
          refine lv_iinc (v := v46) (lv' := [(4, .int v46), (0, .ref (dad g p0)), (1, .ref (dad g p1)), (2, .ref (dad g p2)), (3, .int v2)]) S.1 S.2.1 dX10_look_87 hl (k := 0) rfl (by rw [ev46]; rfl) (by decide) rfl (fun ls hl => ?_)
          refine lv_goto (tgt := 56) S.1 S.2.1 dX10_look_90 (by decide) ?_
          obtain rfl := Option.some.inj h
          exact hCL24 _ rfl H locs ls hP hS (lv_sub hl [0, 1, 2, 3, 4] rfl)
    · obtain ⟨m47, rfl⟩ : ∃ z, z = qL24 := ⟨_, rfl⟩
      have h := d_p1 h
      intro H locs ls hP hS hl
      have hP : va_P g.1 vwCl (dws g m47) H := hP
      have hl : lv_has ls 5 [(0, .ref (dad g p0)), (2, .ref (dad g p2))] := hl
      refine lv_aload_n S.1 S.2.1 dX10_look_93 rfl (lv_at hl 0 rfl) ?_
      refine lv_iconst (v := 1) S.1 S.2.1 dX10_look_94 (by decide) ?_
      refine lv_aload_n S.1 S.2.1 dX10_look_95 rfl (lv_at hl 1 rfl) ?_
      obtain ⟨m49, hc48, h⟩ := d_b h
      refine drv (va_runV (As := [.int 1, .ref (dad g p2)]) (rest := []) S (kX10_seekPairs l g hc48) (cwV 2 S.2.2.2.2 gX10_look_X10_seekPairs rfl rfl rfl ynX10_seekPairs ⟨Nat.le_of_ble_eq_true rfl, Nat.le_of_ble_eq_true rfl⟩) (dpV hE hP hS (ci := 10) rfl (dat11 k0)) rfl rfl hl.1 rfl (lv_room (Nat.le_of_ble_eq_true rfl)) dX10_look_96 ⟨Nat.le_of_ble_eq_true rfl, Nat.le_of_ble_eq_true rfl⟩) hS (fun H locs hP hS => ?_)
      refine lv_aload_n S.1 S.2.1 dX10_look_99 rfl (lv_at hl 0 rfl) ?_
      refine lv_iconst (v := 2) S.1 S.2.1 dX10_look_100 (by decide) ?_
      refine lv_aload_n S.1 S.2.1 dX10_look_101 rfl (lv_at hl 1 rfl) ?_
      obtain ⟨m51, hc50, h⟩ := d_b h
      refine drv (va_runV (As := [.int 2, .ref (dad g p2)]) (rest := []) S (kX10_seekPairs l g hc50) (cwV 2 S.2.2.2.2 gX10_look_X10_seekPairs rfl rfl rfl ynX10_seekPairs ⟨Nat.le_of_ble_eq_true rfl, Nat.le_of_ble_eq_true rfl⟩) (dpV hE hP hS (ci := 10) rfl (dat11 k0)) rfl rfl hl.1 rfl (lv_room (Nat.le_of_ble_eq_true rfl)) dX10_look_102 ⟨Nat.le_of_ble_eq_true rfl, Nat.le_of_ble_eq_true rfl⟩) hS (fun H locs hP hS => ?_)
      refine lv_aload_n S.1 S.2.1 dX10_look_105 rfl (lv_at hl 0 rfl) ?_
      refine dgf10_2 S in10 hE hP k0 (S.2.2.2.2 (.fieldLink RX10 25 "DrillField$Watch" "found" "LDrillField$Fault;") (List.mem_of_getElem? (i := 1) rfl)) dX10_look_106 ?_
      obtain ⟨rfl, rfl⟩ := Prod.mk.inj (Option.some.inj h)
      exact dtr S hr hlk hE hP hS dX10_look_109
