theorem dX1_begin_0 : decode cX1_begin 0 = .ok (.aload_n 0, 1) := by decide +kernel
theorem dX1_begin_1 : decode cX1_begin 1 = .ok (.iload_n 1, 1) := by decide +kernel
theorem dX1_begin_2 : decode cX1_begin 2 = .ok (.bipush 10, 2) := by decide +kernel
theorem dX1_begin_4 : decode cX1_begin 4 = .ok (.invokestatic 29, 3) := by decide +kernel
theorem dX1_begin_7 : decode cX1_begin 7 = .ok (.putfield 35, 3) := by decide +kernel
theorem dX1_begin_10 : decode cX1_begin 10 = .ok (.iconst 0, 1) := by decide +kernel
theorem dX1_begin_11 : decode cX1_begin 11 = .ok (.istore_n 2, 1) := by decide +kernel
theorem dX1_begin_12 : decode cX1_begin 12 = .ok (.iload_n 2, 1) := by decide +kernel
theorem dX1_begin_13 : decode cX1_begin 13 = .ok (.bipush 10, 2) := by decide +kernel
theorem dX1_begin_15 : decode cX1_begin 15 = .ok (.if_icmp .ge 24, 3) := by decide +kernel
theorem dX1_begin_18 : decode cX1_begin 18 = .ok (.aload_n 0, 1) := by decide +kernel
theorem dX1_begin_19 : decode cX1_begin 19 = .ok (.getfield 9, 3) := by decide +kernel
theorem dX1_begin_22 : decode cX1_begin 22 = .ok (.iload_n 2, 1) := by decide +kernel
theorem dX1_begin_23 : decode cX1_begin 23 = .ok (.bipush 14, 2) := by decide +kernel
theorem dX1_begin_25 : decode cX1_begin 25 = .ok (.iastore, 1) := by decide +kernel
theorem dX1_begin_26 : decode cX1_begin 26 = .ok (.aload_n 0, 1) := by decide +kernel
theorem dX1_begin_27 : decode cX1_begin 27 = .ok (.getfield 15, 3) := by decide +kernel
theorem dX1_begin_30 : decode cX1_begin 30 = .ok (.iload_n 2, 1) := by decide +kernel
theorem dX1_begin_31 : decode cX1_begin 31 = .ok (.iconst 0, 1) := by decide +kernel
theorem dX1_begin_32 : decode cX1_begin 32 = .ok (.bastore, 1) := by decide +kernel
theorem dX1_begin_33 : decode cX1_begin 33 = .ok (.iinc 2 1, 3) := by decide +kernel
theorem dX1_begin_36 : decode cX1_begin 36 = .ok (.goto (-24), 3) := by decide +kernel
theorem dX1_begin_39 : decode cX1_begin 39 = .ok (.iconst 0, 1) := by decide +kernel
theorem dX1_begin_40 : decode cX1_begin 40 = .ok (.istore_n 2, 1) := by decide +kernel
theorem dX1_begin_41 : decode cX1_begin 41 = .ok (.iload_n 2, 1) := by decide +kernel
theorem dX1_begin_42 : decode cX1_begin 42 = .ok (.iconst 3, 1) := by decide +kernel
theorem dX1_begin_43 : decode cX1_begin 43 = .ok (.if_icmp .ge 23, 3) := by decide +kernel
theorem dX1_begin_46 : decode cX1_begin 46 = .ok (.aload_n 0, 1) := by decide +kernel
theorem dX1_begin_47 : decode cX1_begin 47 = .ok (.getfield 19, 3) := by decide +kernel
theorem dX1_begin_50 : decode cX1_begin 50 = .ok (.iload_n 2, 1) := by decide +kernel
theorem dX1_begin_51 : decode cX1_begin 51 = .ok (.iconst (-1), 1) := by decide +kernel
theorem dX1_begin_52 : decode cX1_begin 52 = .ok (.iastore, 1) := by decide +kernel
theorem dX1_begin_53 : decode cX1_begin 53 = .ok (.aload_n 0, 1) := by decide +kernel
theorem dX1_begin_54 : decode cX1_begin 54 = .ok (.getfield 22, 3) := by decide +kernel
theorem dX1_begin_57 : decode cX1_begin 57 = .ok (.iload_n 2, 1) := by decide +kernel
theorem dX1_begin_58 : decode cX1_begin 58 = .ok (.iconst 0, 1) := by decide +kernel
theorem dX1_begin_59 : decode cX1_begin 59 = .ok (.bastore, 1) := by decide +kernel
theorem dX1_begin_60 : decode cX1_begin 60 = .ok (.iinc 2 1, 3) := by decide +kernel
theorem dX1_begin_63 : decode cX1_begin 63 = .ok (.goto (-22), 3) := by decide +kernel
theorem dX1_begin_66 : decode cX1_begin 66 = .ok (.return_, 1) := by decide +kernel
def fX1_begin_l12  (v3 : Int32) (m4 : dM) : Option ((Int32 × dM) ⊕ dM) := if 10 ≤ v3 then some (.inr m4) else dg (dIx v3 (dL 2)) (dlet (d1 m4 2 (Int32.toNatClampNeg (v3)) 14) (fun m8 => dg (dIx v3 (dL 3)) (dlet (d1 m8 3 (Int32.toNatClampNeg (v3)) 0) (fun m9 => dlet (v3 + 1 : Int32) (fun v10 => some (.inl (v10, m9)))))))
def fX1_begin_l41  (v13 : Int32) (m14 : dM) : Option ((Int32 × dM) ⊕ dM) := if 3 ≤ v13 then some (.inr m14) else dg (dIx v13 (dL 4)) (dlet (d1 m14 4 (Int32.toNatClampNeg (v13)) (-1)) (fun m18 => dg (dIx v13 (dL 5)) (dlet (d1 m18 5 (Int32.toNatClampNeg (v13)) 0) (fun m19 => dlet (v13 + 1 : Int32) (fun v20 => some (.inl (v20, m19)))))))
def fX1_begin (m : dM) (p0 : Nat) (p1 : Int32) : Option dM := dg (dkg p0 2) (dlet (d1 m p0 4 (if 10 < p1 then 10 else p1)) (fun m1 => (dlp (fun q => dP2 q (fun v3 m4 => fX1_begin_l12 v3 m4)) dFl (0, m1)).bind (fun q => dP1 q (fun m11 => (dlp (fun q => dP2 q (fun v13 m14 => fX1_begin_l41 v13 m14)) dFl (0, m11)).bind (fun q => dP1 q (fun m21 => some m21))))))
set_option maxHeartbeats 4000000 in
set_option maxRecDepth 100000 in
theorem kX1_begin (l : Launch) (g : dG) {m : dM} {p0 : Nat} {p1 : Int32} {m0 : dM} (h : fX1_begin m p0 p1 = some m0) : dMet l g yX1_begin wsX1_begin (dRm 1 21) [.ref (dad g p0), .int p1] m (dQV g m0) := by
  refine dof (cc := cX1_begin) (maxL := 3) (ret := none) _ (plainFor_of_name (by decide)) rfl (Nat.le_of_ble_eq_true rfl) ?_
  intro p e s mth below meth c S hr hlk hE H ls hP hS hl
  have S : CallFix p mth c cX1_begin 3 s _ wsX1_begin RX1 := S
  have hl : lv_has ls 3 [(0, .ref (dad g p0)), (1, .int p1)] := hl
  obtain ⟨locs, hlocs⟩ : ∃ z : List Loc, z = [] := ⟨_, rfl⟩
  rw [← hlocs] at hS ⊢
  have in1 : ∀ w ∈ wsX10, w ∈ wsX1_begin := by decide +kernel
  unfold fX1_begin at h
  obtain ⟨k0, h⟩ := d_g h
  have k0 := d_k k0
  refine lv_aload_n S.1 S.2.1 dX1_begin_0 rfl (lv_at hl 0 rfl) ?_
  refine lv_iload_n S.1 S.2.1 dX1_begin_1 rfl (lv_at hl 1 rfl) ?_
  refine lv_bipush (v := 10) S.1 S.2.1 dX1_begin_2 (by decide) ?_
  refine va_mmin S.1 S.2.1 (S.2.2.1.trans hl.1.symm) S.2.2.2.1 (S.2.2.2.2 (.methodLink RX1 29 Lib.Math.min.name) (List.mem_of_getElem? (i := 1) rfl)) (S.2.2.2.2 (.static Lib.Math.min.name) (List.mem_of_getElem? (i := 2) rfl)) (S.2.2.2.2 (.initialized "java/lang/Math") (List.mem_of_getElem? (i := 3) rfl)) (S.2.2.2.2 (.code Lib.Math.min.name Lib.Math.min.code 2 (some .int)) (List.mem_of_getElem? (i := 4) rfl)) (Nat.le_of_ble_eq_true rfl) (Nat.le_of_ble_eq_true rfl) (Nat.le_of_ble_eq_true rfl) (Nat.le_of_ble_eq_true rfl) dX1_begin_4 ?_
  refine dpf1_4 S in1 hE hP hS k0 (S.2.2.2.2 (.fieldLink RX1 35 "DrillField$Dots" "number" "I") (List.mem_of_getElem? (i := 5) rfl)) dX1_begin_7 (fun H locs hP hS => ?_)
  obtain ⟨m1, em1⟩ : ∃ z : dM, z = d1 m p0 4 (if 10 < p1 then 10 else p1) := ⟨_, rfl⟩
  have h := d_let em1 h
  rw [← em1] at hP
  refine lv_iconst (v := 0) S.1 S.2.1 dX1_begin_10 (by decide) ?_
  refine lv_istore_n (lv' := [(2, .int 0), (0, .ref (dad g p0)), (1, .int p1)]) S.1 S.2.1 dX1_begin_11 rfl hl (by decide) rfl (fun ls hl => ?_)
  obtain ⟨qL2, hqL2, h⟩ := d_b h
  refine d_lp (Hd := fun q => match q with | (v3, m4) => ∀ (H : Heap) (locs : List Loc) (ls : Array Slot), va_P g.1 vwCl (dws g m4) H → va_S (dA g) s.heap H locs → lv_has ls 3 [(2, .int v3), (0, .ref (dad g p0))] → W p l e (headSpec wsX1_begin (dRm 1 21)).room s mth (([.ref (dad g p0), .int p1] : List Value).toArray) below meth c H locs 0 0 (MQ below (dQV g m0) (([.ref (dad g p0), .int p1] : List Value).toArray) s 0 0 (dA g)) (F0 mth 12 ls [])) (K := fun q => (fun (m11 : _) => ∀ (H : Heap) (locs : List Loc) (ls : Array Slot), va_P g.1 vwCl (dws g m11) H → va_S (dA g) s.heap H locs → lv_has ls 3 [(0, .ref (dad g p0))] → W p l e (headSpec wsX1_begin (dRm 1 21)).room s mth (([.ref (dad g p0), .int p1] : List Value).toArray) below meth c H locs 0 0 (MQ below (dQV g m0) (([.ref (dad g p0), .int p1] : List Value).toArray) s 0 0 (dA g)) (F0 mth 39 ls [])) q) ?_ dFl _ qL2 hqL2 ?_ H locs ls hP hS (lv_sub hl [0, 1] rfl)
  · intro q o h hCL2 hEL2
    obtain ⟨v3, m4⟩ := q
    have h : fX1_begin_l12 v3 m4 = some o := h
    intro H locs ls hP hS hl
    have hP : va_P g.1 vwCl (dws g m4) H := hP
    have hl : lv_has ls 3 [(2, .int v3), (0, .ref (dad g p0))] := hl
    unfold fX1_begin_l12 at h
    refine lv_iload_n S.1 S.2.1 dX1_begin_12 rfl (lv_at hl 0 rfl) ?_
    refine lv_bipush (v := 10) S.1 S.2.1 dX1_begin_13 (by decide) ?_
    refine lv_icmp_ge (tgt := 39) S.1 S.2.1 dX1_begin_15 (by decide) (fun cq => ?_) (fun cq => ?_)
    · have h := d_t cq h
      obtain rfl := Option.some.inj h
      exact hEL2 _ rfl H locs ls hP hS (lv_sub hl [1] rfl)
    · have h := d_f cq h
      refine lv_aload_n S.1 S.2.1 dX1_begin_18 rfl (lv_at hl 1 rfl) ?_
      refine dgf1_0 S in1 hE hP k0 (S.2.2.2.2 (.fieldLink RX1 9 "DrillField$Dots" "legs" "[I") (List.mem_of_getElem? (i := 6) rfl)) dX1_begin_19 ?_
      refine lv_iload_n S.1 S.2.1 dX1_begin_22 rfl (lv_at hl 0 rfl) ?_
      refine lv_bipush (v := 14) S.1 S.2.1 dX1_begin_23 (by decide) ?_
      obtain ⟨hi, h⟩ := d_g h
      refine d_iast S hE hP hS dk_2 hi dX1_begin_25 (fun H locs hP hS => ?_)
      obtain ⟨m8, em8⟩ : ∃ z : dM, z = d1 m4 2 (Int32.toNatClampNeg (v3)) 14 := ⟨_, rfl⟩
      have h := d_let em8 h
      rw [← em8] at hP
      refine lv_aload_n S.1 S.2.1 dX1_begin_26 rfl (lv_at hl 1 rfl) ?_
      refine dgf1_1 S in1 hE hP k0 (S.2.2.2.2 (.fieldLink RX1 15 "DrillField$Dots" "isIll" "[Z") (List.mem_of_getElem? (i := 7) rfl)) dX1_begin_27 ?_
      refine lv_iload_n S.1 S.2.1 dX1_begin_30 rfl (lv_at hl 0 rfl) ?_
      refine lv_iconst (v := 0) S.1 S.2.1 dX1_begin_31 (by decide) ?_
      obtain ⟨hi, h⟩ := d_g h
      refine d_zast S hE hP hS dk_3 hi (by decide) dX1_begin_32 (fun H locs hP hS => ?_)
      obtain ⟨m9, em9⟩ : ∃ z : dM, z = d1 m8 3 (Int32.toNatClampNeg (v3)) 0 := ⟨_, rfl⟩
      have h := d_let em9 h
      rw [← em9] at hP
      obtain ⟨v10, ev10⟩ : ∃ z : Int32, z = v3 + 1 := ⟨_, rfl⟩
      have h := d_let ev10 h
      refine lv_iinc (v := v10) (lv' := [(2, .int v10), (0, .ref (dad g p0))]) S.1 S.2.1 dX1_begin_33 hl (k := 0) rfl (by rw [ev10]; rfl) (by decide) rfl (fun ls hl => ?_)
      refine lv_goto (tgt := 12) S.1 S.2.1 dX1_begin_36 (by decide) ?_
      obtain rfl := Option.some.inj h
      exact hCL2 _ rfl H locs ls hP hS (lv_sub hl [0, 1] rfl)
  · obtain ⟨m11, rfl⟩ : ∃ z, z = qL2 := ⟨_, rfl⟩
    have h := d_p1 h
    intro H locs ls hP hS hl
    have hP : va_P g.1 vwCl (dws g m11) H := hP
    have hl : lv_has ls 3 [(0, .ref (dad g p0))] := hl
    refine lv_iconst (v := 0) S.1 S.2.1 dX1_begin_39 (by decide) ?_
    refine lv_istore_n (lv' := [(2, .int 0), (0, .ref (dad g p0))]) S.1 S.2.1 dX1_begin_40 rfl hl (by decide) rfl (fun ls hl => ?_)
    obtain ⟨qL12, hqL12, h⟩ := d_b h
    refine d_lp (Hd := fun q => match q with | (v13, m14) => ∀ (H : Heap) (locs : List Loc) (ls : Array Slot), va_P g.1 vwCl (dws g m14) H → va_S (dA g) s.heap H locs → lv_has ls 3 [(2, .int v13), (0, .ref (dad g p0))] → W p l e (headSpec wsX1_begin (dRm 1 21)).room s mth (([.ref (dad g p0), .int p1] : List Value).toArray) below meth c H locs 0 0 (MQ below (dQV g m0) (([.ref (dad g p0), .int p1] : List Value).toArray) s 0 0 (dA g)) (F0 mth 41 ls [])) (K := fun q => (fun (m21 : _) => ∀ (H : Heap) (locs : List Loc) (ls : Array Slot), va_P g.1 vwCl (dws g m21) H → va_S (dA g) s.heap H locs → lv_has ls 3 [] → W p l e (headSpec wsX1_begin (dRm 1 21)).room s mth (([.ref (dad g p0), .int p1] : List Value).toArray) below meth c H locs 0 0 (MQ below (dQV g m0) (([.ref (dad g p0), .int p1] : List Value).toArray) s 0 0 (dA g)) (F0 mth 66 ls [])) q) ?_ dFl _ qL12 hqL12 ?_ H locs ls hP hS (lv_sub hl [0, 1] rfl)
    · intro q o h hCL12 hEL12
      obtain ⟨v13, m14⟩ := q
      have h : fX1_begin_l41 v13 m14 = some o := h
      intro H locs ls hP hS hl
      have hP : va_P g.1 vwCl (dws g m14) H := hP
      have hl : lv_has ls 3 [(2, .int v13), (0, .ref (dad g p0))] := hl
      unfold fX1_begin_l41 at h
      refine lv_iload_n S.1 S.2.1 dX1_begin_41 rfl (lv_at hl 0 rfl) ?_
      refine lv_iconst (v := 3) S.1 S.2.1 dX1_begin_42 (by decide) ?_
      refine lv_icmp_ge (tgt := 66) S.1 S.2.1 dX1_begin_43 (by decide) (fun cq => ?_) (fun cq => ?_)
      · have h := d_t cq h
        obtain rfl := Option.some.inj h
        exact hEL12 _ rfl H locs ls hP hS (lv_sub hl [] rfl)
      · have h := d_f cq h
        refine lv_aload_n S.1 S.2.1 dX1_begin_46 rfl (lv_at hl 1 rfl) ?_
        refine dgf1_2 S in1 hE hP k0 (S.2.2.2.2 (.fieldLink RX1 19 "DrillField$Dots" "known" "[I") (List.mem_of_getElem? (i := 8) rfl)) dX1_begin_47 ?_
        refine lv_iload_n S.1 S.2.1 dX1_begin_50 rfl (lv_at hl 0 rfl) ?_
        refine lv_iconst (v := (-1)) S.1 S.2.1 dX1_begin_51 (by decide) ?_
        obtain ⟨hi, h⟩ := d_g h
        refine d_iast S hE hP hS dk_4 hi dX1_begin_52 (fun H locs hP hS => ?_)
        obtain ⟨m18, em18⟩ : ∃ z : dM, z = d1 m14 4 (Int32.toNatClampNeg (v13)) (-1) := ⟨_, rfl⟩
        have h := d_let em18 h
        rw [← em18] at hP
        refine lv_aload_n S.1 S.2.1 dX1_begin_53 rfl (lv_at hl 1 rfl) ?_
        refine dgf1_3 S in1 hE hP k0 (S.2.2.2.2 (.fieldLink RX1 22 "DrillField$Dots" "isAlternateIll" "[Z") (List.mem_of_getElem? (i := 9) rfl)) dX1_begin_54 ?_
        refine lv_iload_n S.1 S.2.1 dX1_begin_57 rfl (lv_at hl 0 rfl) ?_
        refine lv_iconst (v := 0) S.1 S.2.1 dX1_begin_58 (by decide) ?_
        obtain ⟨hi, h⟩ := d_g h
        refine d_zast S hE hP hS dk_5 hi (by decide) dX1_begin_59 (fun H locs hP hS => ?_)
        obtain ⟨m19, em19⟩ : ∃ z : dM, z = d1 m18 5 (Int32.toNatClampNeg (v13)) 0 := ⟨_, rfl⟩
        have h := d_let em19 h
        rw [← em19] at hP
        obtain ⟨v20, ev20⟩ : ∃ z : Int32, z = v13 + 1 := ⟨_, rfl⟩
        have h := d_let ev20 h
        refine lv_iinc (v := v20) (lv' := [(2, .int v20), (0, .ref (dad g p0))]) S.1 S.2.1 dX1_begin_60 hl (k := 0) rfl (by rw [ev20]; rfl) (by decide) rfl (fun ls hl => ?_)
        refine lv_goto (tgt := 41) S.1 S.2.1 dX1_begin_63 (by decide) ?_
        obtain rfl := Option.some.inj h
        exact hCL12 _ rfl H locs ls hP hS (lv_sub hl [0, 1] rfl)
    · obtain ⟨m21, rfl⟩ : ∃ z, z = qL12 := ⟨_, rfl⟩
      have h := d_p1 h
      intro H locs ls hP hS hl
      have hP : va_P g.1 vwCl (dws g m21) H := hP
      have hl : lv_has ls 3 [] := hl
      obtain rfl := Option.some.inj h
      exact dtv S hr hlk hE hP hS dX1_begin_66
set_option maxRecDepth 20000 in
theorem ggX1_giveLegs_X11_isInRow : GoodIn wsX1_giveLegs wsX11_isInRow := goodIn_r _ [4] (by decide +kernel) (by decide +kernel)
set_option maxRecDepth 20000 in
theorem gX1_giveLegs_X11_isInRow_n39 : GoodIn wsX1_giveLegs (wsX11_isInRow) := ggX1_giveLegs_X11_isInRow
theorem dX1_giveLegs_0 : decode cX1_giveLegs 0 = .ok (.iload_n 1, 1) := by decide +kernel
theorem dX1_giveLegs_1 : decode cX1_giveLegs 1 = .ok (.invokestatic 39, 3) := by decide +kernel
theorem dX1_giveLegs_4 : decode cX1_giveLegs 4 = .ok (.ifCond .eq 10, 3) := by decide +kernel
theorem dX1_giveLegs_7 : decode cX1_giveLegs 7 = .ok (.aload_n 0, 1) := by decide +kernel
theorem dX1_giveLegs_8 : decode cX1_giveLegs 8 = .ok (.getfield 9, 3) := by decide +kernel
theorem dX1_giveLegs_11 : decode cX1_giveLegs 11 = .ok (.iload_n 1, 1) := by decide +kernel
theorem dX1_giveLegs_12 : decode cX1_giveLegs 12 = .ok (.iload_n 2, 1) := by decide +kernel
theorem dX1_giveLegs_13 : decode cX1_giveLegs 13 = .ok (.iastore, 1) := by decide +kernel
theorem dX1_giveLegs_14 : decode cX1_giveLegs 14 = .ok (.return_, 1) := by decide +kernel
def fX1_giveLegs (m : dM) (p0 : Nat) (p1 : Int32) (p2 : Int32) : Option dM := dg (dkg p0 2) ((fX11_isInRow m p1).bind (fun v2 => if v2 = 0 then some m else dg (dIx p1 (dL 2)) (dlet (d1 m 2 (Int32.toNatClampNeg (p1)) p2) (fun m3 => some m3))))
set_option maxHeartbeats 4000000 in
set_option maxRecDepth 100000 in
theorem kX1_giveLegs (l : Launch) (g : dG) {m : dM} {p0 : Nat} {p1 : Int32} {p2 : Int32} {m0 : dM} (h : fX1_giveLegs m p0 p1 p2 = some m0) : dMet l g yX1_giveLegs wsX1_giveLegs (dRm 1 20) [.ref (dad g p0), .int p1, .int p2] m (dQV g m0) := by
  refine dof (cc := cX1_giveLegs) (maxL := 3) (ret := none) _ (plainFor_of_name (by decide)) rfl (Nat.le_of_ble_eq_true rfl) ?_
  intro p e s mth below meth c S hr hlk hE H ls hP hS hl
  have S : CallFix p mth c cX1_giveLegs 3 s _ wsX1_giveLegs RX1 := S
  have hl : lv_has ls 3 [(0, .ref (dad g p0)), (1, .int p1), (2, .int p2)] := hl
  obtain ⟨locs, hlocs⟩ : ∃ z : List Loc, z = [] := ⟨_, rfl⟩
  rw [← hlocs] at hS ⊢
  have in1 : ∀ w ∈ wsX10, w ∈ wsX1_giveLegs := by decide +kernel
  unfold fX1_giveLegs at h
  obtain ⟨k0, h⟩ := d_g h
  have k0 := d_k k0
  refine lv_iload_n S.1 S.2.1 dX1_giveLegs_0 rfl (lv_at hl 1 rfl) ?_
  obtain ⟨v2, hc1, h⟩ := d_b h
  refine dri (va_runSN (As := [.int p1]) (rest := []) S (kX11_isInRow l g hc1) ⟨va_cnB 1 S.2.2.2.2 gX1_giveLegs_X11_isInRow_n39 rfl rfl rfl (dnq_RX1_39 hE) (S.2.2.2.2 (.initialized RX11) (List.mem_of_getElem? (i := 3) rfl)) ynX11_isInRow ⟨Nat.le_of_ble_eq_true rfl, Nat.le_of_ble_eq_true rfl⟩, S.2.2.2.2 (.static yX11_isInRow) (List.mem_of_getElem? (i := 2) rfl), trivial⟩ (dpS hE hP hS) rfl rfl hl.1 rfl (lv_room (Nat.le_of_ble_eq_true rfl)) dX1_giveLegs_1 ⟨Nat.le_of_ble_eq_true rfl, Nat.le_of_ble_eq_true rfl⟩) hS (fun H locs hP hS => ?_)
  refine lv_if_eq (tgt := 14) S.1 S.2.1 dX1_giveLegs_4 (by decide) (fun cq => ?_) (fun cq => ?_)
  · have h := d_t cq h
    obtain rfl := Option.some.inj h
    exact dtv S hr hlk hE hP hS dX1_giveLegs_14
  · have h := d_f cq h
    refine lv_aload_n S.1 S.2.1 dX1_giveLegs_7 rfl (lv_at hl 0 rfl) ?_
    refine dgf1_0 S in1 hE hP k0 (S.2.2.2.2 (.fieldLink RX1 9 "DrillField$Dots" "legs" "[I") (List.mem_of_getElem? (i := 1) rfl)) dX1_giveLegs_8 ?_
    refine lv_iload_n S.1 S.2.1 dX1_giveLegs_11 rfl (lv_at hl 1 rfl) ?_
    refine lv_iload_n S.1 S.2.1 dX1_giveLegs_12 rfl (lv_at hl 2 rfl) ?_
    obtain ⟨hi, h⟩ := d_g h
    refine d_iast S hE hP hS dk_2 hi dX1_giveLegs_13 (fun H locs hP hS => ?_)
    obtain ⟨m3, em3⟩ : ∃ z : dM, z = d1 m 2 (Int32.toNatClampNeg (p1)) p2 := ⟨_, rfl⟩
    have h := d_let em3 h
    rw [← em3] at hP
    obtain rfl := Option.some.inj h
    exact dtv S hr hlk hE hP hS dX1_giveLegs_14
set_option maxRecDepth 20000 in
theorem ggX1_legsOf_X11_isInRow : GoodIn wsX1_legsOf wsX11_isInRow := goodIn_r _ [4] (by decide +kernel) (by decide +kernel)
set_option maxRecDepth 20000 in
theorem gX1_legsOf_X11_isInRow_n39 : GoodIn wsX1_legsOf (wsX11_isInRow) := ggX1_legsOf_X11_isInRow
theorem dX1_legsOf_0 : decode cX1_legsOf 0 = .ok (.iload_n 1, 1) := by decide +kernel
theorem dX1_legsOf_1 : decode cX1_legsOf 1 = .ok (.invokestatic 39, 3) := by decide +kernel
theorem dX1_legsOf_4 : decode cX1_legsOf 4 = .ok (.ifCond .eq 12, 3) := by decide +kernel
theorem dX1_legsOf_7 : decode cX1_legsOf 7 = .ok (.aload_n 0, 1) := by decide +kernel
theorem dX1_legsOf_8 : decode cX1_legsOf 8 = .ok (.getfield 9, 3) := by decide +kernel
theorem dX1_legsOf_11 : decode cX1_legsOf 11 = .ok (.iload_n 1, 1) := by decide +kernel
theorem dX1_legsOf_12 : decode cX1_legsOf 12 = .ok (.iaload, 1) := by decide +kernel
theorem dX1_legsOf_13 : decode cX1_legsOf 13 = .ok (.goto 5, 3) := by decide +kernel
theorem dX1_legsOf_16 : decode cX1_legsOf 16 = .ok (.bipush 14, 2) := by decide +kernel
theorem dX1_legsOf_18 : decode cX1_legsOf 18 = .ok (.ireturn, 1) := by decide +kernel
def fX1_legsOf (m : dM) (p0 : Nat) (p1 : Int32) : Option Int32 := dg (dkg p0 2) ((fX11_isInRow m p1).bind (fun v2 => if v2 = 0 then some 14 else dg (dIx p1 (dL 2)) (some (m.1 2 (Int32.toNatClampNeg (p1))))))
set_option maxHeartbeats 4000000 in
set_option maxRecDepth 100000 in
theorem kX1_legsOf (l : Launch) (g : dG) {m : dM} {p0 : Nat} {p1 : Int32} {r0 : Int32} (h : fX1_legsOf m p0 p1 = some r0) : dMet l g yX1_legsOf wsX1_legsOf (dRm 1 20) [.ref (dad g p0), .int p1] m (dQI g r0 m) := by
  refine dof (cc := cX1_legsOf) (maxL := 2) (ret := (some .int)) _ (plainFor_of_name (by decide)) rfl (Nat.le_of_ble_eq_true rfl) ?_
  intro p e s mth below meth c S hr hlk hE H ls hP hS hl
  have S : CallFix p mth c cX1_legsOf 2 s _ wsX1_legsOf RX1 := S
  have hl : lv_has ls 2 [(0, .ref (dad g p0)), (1, .int p1)] := hl
  obtain ⟨locs, hlocs⟩ : ∃ z : List Loc, z = [] := ⟨_, rfl⟩
  rw [← hlocs] at hS ⊢
  have in1 : ∀ w ∈ wsX10, w ∈ wsX1_legsOf := by decide +kernel
  unfold fX1_legsOf at h
  obtain ⟨k0, h⟩ := d_g h
  have k0 := d_k k0
  refine lv_iload_n S.1 S.2.1 dX1_legsOf_0 rfl (lv_at hl 1 rfl) ?_
  obtain ⟨v2, hc1, h⟩ := d_b h
  refine dri (va_runSN (As := [.int p1]) (rest := []) S (kX11_isInRow l g hc1) ⟨va_cnB 1 S.2.2.2.2 gX1_legsOf_X11_isInRow_n39 rfl rfl rfl (dnq_RX1_39 hE) (S.2.2.2.2 (.initialized RX11) (List.mem_of_getElem? (i := 3) rfl)) ynX11_isInRow ⟨Nat.le_of_ble_eq_true rfl, Nat.le_of_ble_eq_true rfl⟩, S.2.2.2.2 (.static yX11_isInRow) (List.mem_of_getElem? (i := 2) rfl), trivial⟩ (dpS hE hP hS) rfl rfl hl.1 rfl (lv_room (Nat.le_of_ble_eq_true rfl)) dX1_legsOf_1 ⟨Nat.le_of_ble_eq_true rfl, Nat.le_of_ble_eq_true rfl⟩) hS (fun H locs hP hS => ?_)
  refine lv_if_eq (tgt := 16) S.1 S.2.1 dX1_legsOf_4 (by decide) (fun cq => ?_) (fun cq => ?_)
  · have h := d_t cq h
    refine lv_bipush (v := 14) S.1 S.2.1 dX1_legsOf_16 (by decide) ?_
    obtain rfl := Option.some.inj h
    exact dti S hr hlk hE hP hS rfl dX1_legsOf_18
  · have h := d_f cq h
    refine lv_aload_n S.1 S.2.1 dX1_legsOf_7 rfl (lv_at hl 0 rfl) ?_
    refine dgf1_0 S in1 hE hP k0 (S.2.2.2.2 (.fieldLink RX1 9 "DrillField$Dots" "legs" "[I") (List.mem_of_getElem? (i := 1) rfl)) dX1_legsOf_8 ?_
    refine lv_iload_n S.1 S.2.1 dX1_legsOf_11 rfl (lv_at hl 1 rfl) ?_
    obtain ⟨hi, h⟩ := d_g h
    refine d_iald S hE hP dk_2 hi dX1_legsOf_12 ?_
    refine lv_goto (tgt := 18) S.1 S.2.1 dX1_legsOf_13 (by decide) ?_
    obtain rfl := Option.some.inj h
    exact dti S hr hlk hE hP hS rfl dX1_legsOf_18
set_option maxRecDepth 20000 in
theorem ggX1_letBeIll_X11_isInRow : GoodIn wsX1_letBeIll wsX11_isInRow := goodIn_r _ [4] (by decide +kernel) (by decide +kernel)
set_option maxRecDepth 20000 in
theorem gX1_letBeIll_X11_isInRow_n39 : GoodIn wsX1_letBeIll (wsX11_isInRow) := ggX1_letBeIll_X11_isInRow
theorem dX1_letBeIll_0 : decode cX1_letBeIll 0 = .ok (.iload_n 1, 1) := by decide +kernel
theorem dX1_letBeIll_1 : decode cX1_letBeIll 1 = .ok (.invokestatic 39, 3) := by decide +kernel
theorem dX1_letBeIll_4 : decode cX1_letBeIll 4 = .ok (.ifCond .eq 10, 3) := by decide +kernel
theorem dX1_letBeIll_7 : decode cX1_letBeIll 7 = .ok (.aload_n 0, 1) := by decide +kernel
theorem dX1_letBeIll_8 : decode cX1_letBeIll 8 = .ok (.getfield 15, 3) := by decide +kernel
theorem dX1_letBeIll_11 : decode cX1_letBeIll 11 = .ok (.iload_n 1, 1) := by decide +kernel
theorem dX1_letBeIll_12 : decode cX1_letBeIll 12 = .ok (.iload_n 2, 1) := by decide +kernel
theorem dX1_letBeIll_13 : decode cX1_letBeIll 13 = .ok (.bastore, 1) := by decide +kernel
theorem dX1_letBeIll_14 : decode cX1_letBeIll 14 = .ok (.return_, 1) := by decide +kernel
def fX1_letBeIll (m : dM) (p0 : Nat) (p1 : Int32) (p2 : Int32) : Option dM := dg (dkg p0 2) ((fX11_isInRow m p1).bind (fun v2 => if v2 = 0 then some m else dg (dIx p1 (dL 3)) (dg (dB p2) (dlet (d1 m 3 (Int32.toNatClampNeg (p1)) p2) (fun m3 => some m3)))))
set_option maxHeartbeats 4000000 in
set_option maxRecDepth 100000 in
theorem kX1_letBeIll (l : Launch) (g : dG) {m : dM} {p0 : Nat} {p1 : Int32} {p2 : Int32} {m0 : dM} (h : fX1_letBeIll m p0 p1 p2 = some m0) : dMet l g yX1_letBeIll wsX1_letBeIll (dRm 1 20) [.ref (dad g p0), .int p1, .int p2] m (dQV g m0) := by
  refine dof (cc := cX1_letBeIll) (maxL := 3) (ret := none) _ (plainFor_of_name (by decide)) rfl (Nat.le_of_ble_eq_true rfl) ?_
  intro p e s mth below meth c S hr hlk hE H ls hP hS hl
  have S : CallFix p mth c cX1_letBeIll 3 s _ wsX1_letBeIll RX1 := S
  have hl : lv_has ls 3 [(0, .ref (dad g p0)), (1, .int p1), (2, .int p2)] := hl
  obtain ⟨locs, hlocs⟩ : ∃ z : List Loc, z = [] := ⟨_, rfl⟩
  rw [← hlocs] at hS ⊢
  have in1 : ∀ w ∈ wsX10, w ∈ wsX1_letBeIll := by decide +kernel
  unfold fX1_letBeIll at h
  obtain ⟨k0, h⟩ := d_g h
  have k0 := d_k k0
  refine lv_iload_n S.1 S.2.1 dX1_letBeIll_0 rfl (lv_at hl 1 rfl) ?_
  obtain ⟨v2, hc1, h⟩ := d_b h
  refine dri (va_runSN (As := [.int p1]) (rest := []) S (kX11_isInRow l g hc1) ⟨va_cnB 1 S.2.2.2.2 gX1_letBeIll_X11_isInRow_n39 rfl rfl rfl (dnq_RX1_39 hE) (S.2.2.2.2 (.initialized RX11) (List.mem_of_getElem? (i := 3) rfl)) ynX11_isInRow ⟨Nat.le_of_ble_eq_true rfl, Nat.le_of_ble_eq_true rfl⟩, S.2.2.2.2 (.static yX11_isInRow) (List.mem_of_getElem? (i := 2) rfl), trivial⟩ (dpS hE hP hS) rfl rfl hl.1 rfl (lv_room (Nat.le_of_ble_eq_true rfl)) dX1_letBeIll_1 ⟨Nat.le_of_ble_eq_true rfl, Nat.le_of_ble_eq_true rfl⟩) hS (fun H locs hP hS => ?_)
  refine lv_if_eq (tgt := 14) S.1 S.2.1 dX1_letBeIll_4 (by decide) (fun cq => ?_) (fun cq => ?_)
  · have h := d_t cq h
    obtain rfl := Option.some.inj h
    exact dtv S hr hlk hE hP hS dX1_letBeIll_14
  · have h := d_f cq h
    refine lv_aload_n S.1 S.2.1 dX1_letBeIll_7 rfl (lv_at hl 0 rfl) ?_
    refine dgf1_1 S in1 hE hP k0 (S.2.2.2.2 (.fieldLink RX1 15 "DrillField$Dots" "isIll" "[Z") (List.mem_of_getElem? (i := 1) rfl)) dX1_letBeIll_8 ?_
    refine lv_iload_n S.1 S.2.1 dX1_letBeIll_11 rfl (lv_at hl 1 rfl) ?_
    refine lv_iload_n S.1 S.2.1 dX1_letBeIll_12 rfl (lv_at hl 2 rfl) ?_
    obtain ⟨hi, h⟩ := d_g h
    obtain ⟨hb, h⟩ := d_g h
    refine d_zast S hE hP hS dk_3 hi hb dX1_letBeIll_13 (fun H locs hP hS => ?_)
    obtain ⟨m3, em3⟩ : ∃ z : dM, z = d1 m 3 (Int32.toNatClampNeg (p1)) p2 := ⟨_, rfl⟩
    have h := d_let em3 h
    rw [← em3] at hP
    obtain rfl := Option.some.inj h
    exact dtv S hr hlk hE hP hS dX1_letBeIll_14
set_option maxRecDepth 20000 in
theorem ggX1_marches_X11_isInRow : GoodIn wsX1_marches wsX11_isInRow := goodIn_r _ [6] (by decide +kernel) (by decide +kernel)
set_option maxRecDepth 20000 in
theorem gX1_marches_X11_isInRow_n39 : GoodIn wsX1_marches (wsX11_isInRow) := ggX1_marches_X11_isInRow
theorem dX1_marches_0 : decode cX1_marches 0 = .ok (.iload_n 1, 1) := by decide +kernel
theorem dX1_marches_1 : decode cX1_marches 1 = .ok (.invokestatic 39, 3) := by decide +kernel
theorem dX1_marches_4 : decode cX1_marches 4 = .ok (.ifCond .ne 5, 3) := by decide +kernel
theorem dX1_marches_7 : decode cX1_marches 7 = .ok (.iconst 0, 1) := by decide +kernel
theorem dX1_marches_8 : decode cX1_marches 8 = .ok (.ireturn, 1) := by decide +kernel
theorem dX1_marches_9 : decode cX1_marches 9 = .ok (.aload_n 0, 1) := by decide +kernel
theorem dX1_marches_10 : decode cX1_marches 10 = .ok (.getfield 15, 3) := by decide +kernel
theorem dX1_marches_13 : decode cX1_marches 13 = .ok (.iload_n 1, 1) := by decide +kernel
theorem dX1_marches_14 : decode cX1_marches 14 = .ok (.baload, 1) := by decide +kernel
theorem dX1_marches_15 : decode cX1_marches 15 = .ok (.ifCond .ne 5, 3) := by decide +kernel
theorem dX1_marches_18 : decode cX1_marches 18 = .ok (.iconst 1, 1) := by decide +kernel
theorem dX1_marches_19 : decode cX1_marches 19 = .ok (.ireturn, 1) := by decide +kernel
theorem dX1_marches_20 : decode cX1_marches 20 = .ok (.iconst 0, 1) := by decide +kernel
theorem dX1_marches_21 : decode cX1_marches 21 = .ok (.istore_n 2, 1) := by decide +kernel
theorem dX1_marches_22 : decode cX1_marches 22 = .ok (.iload_n 2, 1) := by decide +kernel
theorem dX1_marches_23 : decode cX1_marches 23 = .ok (.iconst 3, 1) := by decide +kernel
theorem dX1_marches_24 : decode cX1_marches 24 = .ok (.if_icmp .ge 30, 3) := by decide +kernel
theorem dX1_marches_27 : decode cX1_marches 27 = .ok (.aload_n 0, 1) := by decide +kernel
theorem dX1_marches_28 : decode cX1_marches 28 = .ok (.getfield 19, 3) := by decide +kernel
theorem dX1_marches_31 : decode cX1_marches 31 = .ok (.iload_n 2, 1) := by decide +kernel
theorem dX1_marches_32 : decode cX1_marches 32 = .ok (.iaload, 1) := by decide +kernel
theorem dX1_marches_33 : decode cX1_marches 33 = .ok (.iload_n 1, 1) := by decide +kernel
theorem dX1_marches_34 : decode cX1_marches 34 = .ok (.if_icmp .ne 14, 3) := by decide +kernel
theorem dX1_marches_37 : decode cX1_marches 37 = .ok (.aload_n 0, 1) := by decide +kernel
theorem dX1_marches_38 : decode cX1_marches 38 = .ok (.getfield 22, 3) := by decide +kernel
theorem dX1_marches_41 : decode cX1_marches 41 = .ok (.iload_n 2, 1) := by decide +kernel
theorem dX1_marches_42 : decode cX1_marches 42 = .ok (.baload, 1) := by decide +kernel
theorem dX1_marches_43 : decode cX1_marches 43 = .ok (.ifCond .ne 5, 3) := by decide +kernel
theorem dX1_marches_46 : decode cX1_marches 46 = .ok (.iconst 1, 1) := by decide +kernel
theorem dX1_marches_47 : decode cX1_marches 47 = .ok (.ireturn, 1) := by decide +kernel
theorem dX1_marches_48 : decode cX1_marches 48 = .ok (.iinc 2 1, 3) := by decide +kernel
theorem dX1_marches_51 : decode cX1_marches 51 = .ok (.goto (-29), 3) := by decide +kernel
theorem dX1_marches_54 : decode cX1_marches 54 = .ok (.iconst 0, 1) := by decide +kernel
theorem dX1_marches_55 : decode cX1_marches 55 = .ok (.ireturn, 1) := by decide +kernel
def fX1_marches_l22 (m : dM) (p1 : Int32) (v4 : Int32) : Option (Int32 ⊕ (Unit ⊕ Unit)) := if 3 ≤ v4 then some (.inr (.inr ())) else dg (dIx v4 (dL 4)) (if (m.1 4 (Int32.toNatClampNeg (v4))) = p1 then dg (dIx v4 (dL 5)) (if (m.1 5 (Int32.toNatClampNeg (v4))) = 0 then some (.inr (.inl ())) else dlet (v4 + 1 : Int32) (fun v8 => some (.inl v8))) else dlet (v4 + 1 : Int32) (fun v7 => some (.inl v7)))
def fX1_marches (m : dM) (p0 : Nat) (p1 : Int32) : Option Int32 := dg (dkg p0 2) ((fX11_isInRow m p1).bind (fun v2 => if v2 = 0 then some 0 else dg (dIx p1 (dL 3)) (if (m.1 3 (Int32.toNatClampNeg (p1))) = 0 then some 1 else (dlp (fun q => (fun v4 => fX1_marches_l22 m p1 v4) q) dFl 0).bind (fun q => dS q (fun _ => some 1) (fun _ => some 0)))))
set_option maxHeartbeats 4000000 in
set_option maxRecDepth 100000 in
theorem kX1_marches (l : Launch) (g : dG) {m : dM} {p0 : Nat} {p1 : Int32} {r0 : Int32} (h : fX1_marches m p0 p1 = some r0) : dMet l g yX1_marches wsX1_marches (dRm 1 20) [.ref (dad g p0), .int p1] m (dQI g r0 m) := by
  refine dof (cc := cX1_marches) (maxL := 3) (ret := (some .boolean)) _ (plainFor_of_name (by decide)) rfl (Nat.le_of_ble_eq_true rfl) ?_
  intro p e s mth below meth c S hr hlk hE H ls hP hS hl
  have S : CallFix p mth c cX1_marches 3 s _ wsX1_marches RX1 := S
  have hl : lv_has ls 3 [(0, .ref (dad g p0)), (1, .int p1)] := hl
  obtain ⟨locs, hlocs⟩ : ∃ z : List Loc, z = [] := ⟨_, rfl⟩
  rw [← hlocs] at hS ⊢
  have in1 : ∀ w ∈ wsX10, w ∈ wsX1_marches := by decide +kernel
  unfold fX1_marches at h
  obtain ⟨k0, h⟩ := d_g h
  have k0 := d_k k0
  refine lv_iload_n S.1 S.2.1 dX1_marches_0 rfl (lv_at hl 1 rfl) ?_
  obtain ⟨v2, hc1, h⟩ := d_b h
  refine dri (va_runSN (As := [.int p1]) (rest := []) S (kX11_isInRow l g hc1) ⟨va_cnB 1 S.2.2.2.2 gX1_marches_X11_isInRow_n39 rfl rfl rfl (dnq_RX1_39 hE) (S.2.2.2.2 (.initialized RX11) (List.mem_of_getElem? (i := 5) rfl)) ynX11_isInRow ⟨Nat.le_of_ble_eq_true rfl, Nat.le_of_ble_eq_true rfl⟩, S.2.2.2.2 (.static yX11_isInRow) (List.mem_of_getElem? (i := 4) rfl), trivial⟩ (dpS hE hP hS) rfl rfl hl.1 rfl (lv_room (Nat.le_of_ble_eq_true rfl)) dX1_marches_1 ⟨Nat.le_of_ble_eq_true rfl, Nat.le_of_ble_eq_true rfl⟩) hS (fun H locs hP hS => ?_)
  refine lv_if_ne (tgt := 9) S.1 S.2.1 dX1_marches_4 (by decide) (fun cq => ?_) (fun cq => ?_)
  · have h := d_f cq h
    refine lv_aload_n S.1 S.2.1 dX1_marches_9 rfl (lv_at hl 0 rfl) ?_
    refine dgf1_1 S in1 hE hP k0 (S.2.2.2.2 (.fieldLink RX1 15 "DrillField$Dots" "isIll" "[Z") (List.mem_of_getElem? (i := 1) rfl)) dX1_marches_10 ?_
    refine lv_iload_n S.1 S.2.1 dX1_marches_13 rfl (lv_at hl 1 rfl) ?_
    obtain ⟨hi, h⟩ := d_g h
    refine d_zald S hE hP dk_3 hi dX1_marches_14 ?_
    refine lv_if_ne (tgt := 20) S.1 S.2.1 dX1_marches_15 (by decide) (fun cq => ?_) (fun cq => ?_)
    · have h := d_f cq h
      refine lv_iconst (v := 0) S.1 S.2.1 dX1_marches_20 (by decide) ?_
      refine lv_istore_n (lv' := [(2, .int 0), (0, .ref (dad g p0)), (1, .int p1)]) S.1 S.2.1 dX1_marches_21 rfl hl (by decide) rfl (fun ls hl => ?_)
      obtain ⟨qL3, hqL3, h⟩ := d_b h
      refine d_lp (Hd := fun q => (fun (v4 : _) => ∀ (H : Heap) (locs : List Loc) (ls : Array Slot), va_P g.1 vwCl (dws g m) H → va_S (dA g) s.heap H locs → lv_has ls 3 [(2, .int v4), (0, .ref (dad g p0)), (1, .int p1)] → W p l e (headSpec wsX1_marches (dRm 1 20)).room s mth (([.ref (dad g p0), .int p1] : List Value).toArray) below meth c H locs 0 0 (MQ below (dQI g r0 m) (([.ref (dad g p0), .int p1] : List Value).toArray) s 0 0 (dA g)) (F0 mth 22 ls [])) q) (K := fun q => match q with | .inl q => ∀ (H : Heap) (locs : List Loc) (ls : Array Slot), va_P g.1 vwCl (dws g m) H → va_S (dA g) s.heap H locs → lv_has ls 3 [] → W p l e (headSpec wsX1_marches (dRm 1 20)).room s mth (([.ref (dad g p0), .int p1] : List Value).toArray) below meth c H locs 0 0 (MQ below (dQI g r0 m) (([.ref (dad g p0), .int p1] : List Value).toArray) s 0 0 (dA g)) (F0 mth 46 ls []) | .inr q => ∀ (H : Heap) (locs : List Loc) (ls : Array Slot), va_P g.1 vwCl (dws g m) H → va_S (dA g) s.heap H locs → lv_has ls 3 [] → W p l e (headSpec wsX1_marches (dRm 1 20)).room s mth (([.ref (dad g p0), .int p1] : List Value).toArray) below meth c H locs 0 0 (MQ below (dQI g r0 m) (([.ref (dad g p0), .int p1] : List Value).toArray) s 0 0 (dA g)) (F0 mth 54 ls [])) ?_ dFl _ qL3 hqL3 ?_ H locs ls hP hS (lv_sub hl [0, 1, 2] rfl)
      · intro q o h hCL3 hEL3
        obtain ⟨v4, rfl⟩ : ∃ z, z = q := ⟨_, rfl⟩
        have h : fX1_marches_l22 m p1 v4 = some o := h
        intro H locs ls hP hS hl
        have hP : va_P g.1 vwCl (dws g m) H := hP
        have hl : lv_has ls 3 [(2, .int v4), (0, .ref (dad g p0)), (1, .int p1)] := hl
        unfold fX1_marches_l22 at h
        refine lv_iload_n S.1 S.2.1 dX1_marches_22 rfl (lv_at hl 0 rfl) ?_
        refine lv_iconst (v := 3) S.1 S.2.1 dX1_marches_23 (by decide) ?_
        refine lv_icmp_ge (tgt := 54) S.1 S.2.1 dX1_marches_24 (by decide) (fun cq => ?_) (fun cq => ?_)
        · have h := d_t cq h
          obtain rfl := Option.some.inj h
          exact hEL3 _ rfl H locs ls hP hS (lv_sub hl [] rfl)
        · have h := d_f cq h
          refine lv_aload_n S.1 S.2.1 dX1_marches_27 rfl (lv_at hl 1 rfl) ?_
          refine dgf1_2 S in1 hE hP k0 (S.2.2.2.2 (.fieldLink RX1 19 "DrillField$Dots" "known" "[I") (List.mem_of_getElem? (i := 2) rfl)) dX1_marches_28 ?_
          refine lv_iload_n S.1 S.2.1 dX1_marches_31 rfl (lv_at hl 0 rfl) ?_
          obtain ⟨hi, h⟩ := d_g h
          refine d_iald S hE hP dk_4 hi dX1_marches_32 ?_
          refine lv_iload_n S.1 S.2.1 dX1_marches_33 rfl (lv_at hl 2 rfl) ?_
          refine lv_icmp_ne (tgt := 48) S.1 S.2.1 dX1_marches_34 (by decide) (fun cq => ?_) (fun cq => ?_)
          · have h := d_f cq h
            obtain ⟨v7, ev7⟩ : ∃ z : Int32, z = v4 + 1 := ⟨_, rfl⟩
            have h := d_let ev7 h
            refine lv_iinc (v := v7) (lv' := [(2, .int v7), (0, .ref (dad g p0)), (1, .int p1)]) S.1 S.2.1 dX1_marches_48 hl (k := 0) rfl (by rw [ev7]; rfl) (by decide) rfl (fun ls hl => ?_)
            refine lv_goto (tgt := 22) S.1 S.2.1 dX1_marches_51 (by decide) ?_
            obtain rfl := Option.some.inj h
            exact hCL3 _ rfl H locs ls hP hS (lv_sub hl [0, 1, 2] rfl)
          · have h := d_t cq h
            refine lv_aload_n S.1 S.2.1 dX1_marches_37 rfl (lv_at hl 1 rfl) ?_
            refine dgf1_3 S in1 hE hP k0 (S.2.2.2.2 (.fieldLink RX1 22 "DrillField$Dots" "isAlternateIll" "[Z") (List.mem_of_getElem? (i := 3) rfl)) dX1_marches_38 ?_
            refine lv_iload_n S.1 S.2.1 dX1_marches_41 rfl (lv_at hl 0 rfl) ?_
            obtain ⟨hi, h⟩ := d_g h
            refine d_zald S hE hP dk_5 hi dX1_marches_42 ?_
            refine lv_if_ne (tgt := 48) S.1 S.2.1 dX1_marches_43 (by decide) (fun cq => ?_) (fun cq => ?_)
            · have h := d_f cq h
              obtain ⟨v8, ev8⟩ : ∃ z : Int32, z = v4 + 1 := ⟨_, rfl⟩
              have h := d_let ev8 h
              refine lv_iinc (v := v8) (lv' := [(2, .int v8), (0, .ref (dad g p0)), (1, .int p1)]) S.1 S.2.1 dX1_marches_48 hl (k := 0) rfl (by rw [ev8]; rfl) (by decide) rfl (fun ls hl => ?_)
              refine lv_goto (tgt := 22) S.1 S.2.1 dX1_marches_51 (by decide) ?_
              obtain rfl := Option.some.inj h
              exact hCL3 _ rfl H locs ls hP hS (lv_sub hl [0, 1, 2] rfl)
            · have h := d_t cq h
              obtain rfl := Option.some.inj h
              exact hEL3 _ rfl H locs ls hP hS (lv_sub hl [] rfl)
      · rcases qL3 with qL3a | qL3b
        · have h := d_s1 h
          intro H locs ls hP hS hl
          have hP : va_P g.1 vwCl (dws g m) H := hP
          have hl : lv_has ls 3 [] := hl
          refine lv_iconst (v := 1) S.1 S.2.1 dX1_marches_46 (by decide) ?_
          obtain rfl := Option.some.inj h
          exact dti S hr hlk hE hP hS rfl dX1_marches_47
        · have h := d_s2 h
          intro H locs ls hP hS hl
          have hP : va_P g.1 vwCl (dws g m) H := hP
          have hl : lv_has ls 3 [] := hl
          refine lv_iconst (v := 0) S.1 S.2.1 dX1_marches_54 (by decide) ?_
          obtain rfl := Option.some.inj h
          exact dti S hr hlk hE hP hS rfl dX1_marches_55
    · have h := d_t cq h
      refine lv_iconst (v := 1) S.1 S.2.1 dX1_marches_18 (by decide) ?_
      obtain rfl := Option.some.inj h
      exact dti S hr hlk hE hP hS rfl dX1_marches_19
  · have h := d_t cq h
    refine lv_iconst (v := 0) S.1 S.2.1 dX1_marches_7 (by decide) ?_
    obtain rfl := Option.some.inj h
    exact dti S hr hlk hE hP hS rfl dX1_marches_8
theorem dX1_number_0 : decode cX1_number 0 = .ok (.aload_n 0, 1) := by decide +kernel
theorem dX1_number_1 : decode cX1_number 1 = .ok (.getfield 35, 3) := by decide +kernel
theorem dX1_number_4 : decode cX1_number 4 = .ok (.ireturn, 1) := by decide +kernel
def fX1_number (m : dM) (p0 : Nat) : Option Int32 := dg (dkg p0 2) (some (m.1 p0 4))
set_option maxHeartbeats 4000000 in
set_option maxRecDepth 100000 in
theorem kX1_number (l : Launch) (g : dG) {m : dM} {p0 : Nat} {r0 : Int32} (h : fX1_number m p0 = some r0) : dMet l g yX1_number wsX1_number (dRm 0 0) [.ref (dad g p0)] m (dQI g r0 m) := by
  refine dof (cc := cX1_number) (maxL := 1) (ret := (some .int)) _ (plainFor_of_name (by decide)) rfl (Nat.le_of_ble_eq_true rfl) ?_
  intro p e s mth below meth c S hr hlk hE H ls hP hS hl
  have S : CallFix p mth c cX1_number 1 s _ wsX1_number RX1 := S
  have hl : lv_has ls 1 [(0, .ref (dad g p0))] := hl
  obtain ⟨locs, hlocs⟩ : ∃ z : List Loc, z = [] := ⟨_, rfl⟩
  rw [← hlocs] at hS ⊢
  have in1 : ∀ w ∈ wsX10, w ∈ wsX1_number := by decide +kernel
  unfold fX1_number at h
  obtain ⟨k0, h⟩ := d_g h
  have k0 := d_k k0
  refine lv_aload_n S.1 S.2.1 dX1_number_0 rfl (lv_at hl 0 rfl) ?_
  refine dgf1_4 S in1 hE hP k0 (S.2.2.2.2 (.fieldLink RX1 35 "DrillField$Dots" "number" "I") (List.mem_of_getElem? (i := 1) rfl)) dX1_number_1 ?_
  obtain rfl := Option.some.inj h
  exact dti S hr hlk hE hP hS rfl dX1_number_4
set_option maxRecDepth 20000 in
theorem ggX1_stepSquare_X1_legsOf : GoodIn wsX1_stepSquare wsX1_legsOf := goodIn_r _ [5, 6, 7, 8, 9, 16, 17, 18, 19, 20] (by decide +kernel) (by decide +kernel)
set_option maxRecDepth 20000 in
theorem gX1_stepSquare_X1_legsOf : GoodIn wsX1_stepSquare (wsV RX1 47 RX1 yX1_legsOf wsX1_legsOf) := goodIn_app (goodIn_of _ (by decide +kernel)) ggX1_stepSquare_X1_legsOf
set_option maxRecDepth 20000 in
theorem ggX1_stepSquare_X11_downBy : GoodIn wsX1_stepSquare wsX11_downBy := goodIn_r _ [11, 12, 13, 14, 15] (by decide +kernel) (by decide +kernel)
set_option maxRecDepth 20000 in
theorem gX1_stepSquare_X11_downBy_n51 : GoodIn wsX1_stepSquare (wsX11_downBy) := ggX1_stepSquare_X11_downBy
theorem dX1_stepSquare_0 : decode cX1_stepSquare 0 = .ok (.aload_n 0, 1) := by decide +kernel
theorem dX1_stepSquare_1 : decode cX1_stepSquare 1 = .ok (.iload_n 1, 1) := by decide +kernel
theorem dX1_stepSquare_2 : decode cX1_stepSquare 2 = .ok (.invokevirtual 47, 3) := by decide +kernel
theorem dX1_stepSquare_5 : decode cX1_stepSquare 5 = .ok (.istore_n 3, 1) := by decide +kernel
theorem dX1_stepSquare_6 : decode cX1_stepSquare 6 = .ok (.iload_n 2, 1) := by decide +kernel
theorem dX1_stepSquare_7 : decode cX1_stepSquare 7 = .ok (.bipush 120, 2) := by decide +kernel
theorem dX1_stepSquare_9 : decode cX1_stepSquare 9 = .ok (.if_icmp .le 12, 3) := by decide +kernel
theorem dX1_stepSquare_12 : decode cX1_stepSquare 12 = .ok (.iload_n 3, 1) := by decide +kernel
theorem dX1_stepSquare_13 : decode cX1_stepSquare 13 = .ok (.bipush 120, 2) := by decide +kernel
theorem dX1_stepSquare_15 : decode cX1_stepSquare 15 = .ok (.imul, 1) := by decide +kernel
theorem dX1_stepSquare_16 : decode cX1_stepSquare 16 = .ok (.iload_n 2, 1) := by decide +kernel
theorem dX1_stepSquare_17 : decode cX1_stepSquare 17 = .ok (.invokestatic 51, 3) := by decide +kernel
theorem dX1_stepSquare_20 : decode cX1_stepSquare 20 = .ok (.istore_n 3, 1) := by decide +kernel
theorem dX1_stepSquare_21 : decode cX1_stepSquare 21 = .ok (.iload_n 3, 1) := by decide +kernel
theorem dX1_stepSquare_22 : decode cX1_stepSquare 22 = .ok (.iload_n 3, 1) := by decide +kernel
theorem dX1_stepSquare_23 : decode cX1_stepSquare 23 = .ok (.imul, 1) := by decide +kernel
theorem dX1_stepSquare_24 : decode cX1_stepSquare 24 = .ok (.ireturn, 1) := by decide +kernel
def fX1_stepSquare (m : dM) (p0 : Nat) (p1 : Int32) (p2 : Int32) : Option Int32 := dg (dkg p0 2) ((fX1_legsOf m p0 p1).bind (fun v2 => if p2 ≤ 120 then some (v2 * v2) else (fX11_downBy m (v2 * 120) p2).bind (fun v4 => some (v4 * v4))))
set_option maxHeartbeats 4000000 in
set_option maxRecDepth 100000 in
theorem kX1_stepSquare (l : Launch) (g : dG) {m : dM} {p0 : Nat} {p1 : Int32} {p2 : Int32} {r0 : Int32} (h : fX1_stepSquare m p0 p1 p2 = some r0) : dMet l g yX1_stepSquare wsX1_stepSquare (dRm 2 43) [.ref (dad g p0), .int p1, .int p2] m (dQI g r0 m) := by
  refine dof (cc := cX1_stepSquare) (maxL := 4) (ret := (some .int)) _ (plainFor_of_name (by decide)) rfl (Nat.le_of_ble_eq_true rfl) ?_
  intro p e s mth below meth c S hr hlk hE H ls hP hS hl
  have S : CallFix p mth c cX1_stepSquare 4 s _ wsX1_stepSquare RX1 := S
  have hl : lv_has ls 4 [(0, .ref (dad g p0)), (1, .int p1), (2, .int p2)] := hl
  obtain ⟨locs, hlocs⟩ : ∃ z : List Loc, z = [] := ⟨_, rfl⟩
  rw [← hlocs] at hS ⊢
  unfold fX1_stepSquare at h
  obtain ⟨k0, h⟩ := d_g h
  have k0 := d_k k0
  refine lv_aload_n S.1 S.2.1 dX1_stepSquare_0 rfl (lv_at hl 0 rfl) ?_
  refine lv_iload_n S.1 S.2.1 dX1_stepSquare_1 rfl (lv_at hl 1 rfl) ?_
  obtain ⟨v2, hc1, h⟩ := d_b h
  refine dri (va_runV (As := [.int p1]) (rest := []) S (kX1_legsOf l g hc1) (cwV 1 S.2.2.2.2 gX1_stepSquare_X1_legsOf rfl rfl rfl ynX1_legsOf ⟨Nat.le_of_ble_eq_true rfl, Nat.le_of_ble_eq_true rfl⟩) (dpV hE hP hS (ci := 1) rfl (dat2 k0)) rfl rfl hl.1 rfl (lv_room (Nat.le_of_ble_eq_true rfl)) dX1_stepSquare_2 ⟨Nat.le_of_ble_eq_true rfl, Nat.le_of_ble_eq_true rfl⟩) hS (fun H locs hP hS => ?_)
  refine lv_istore_n (lv' := [(3, .int v2), (0, .ref (dad g p0)), (1, .int p1), (2, .int p2)]) S.1 S.2.1 dX1_stepSquare_5 rfl hl (by decide) rfl (fun ls hl => ?_)
  refine lv_iload_n S.1 S.2.1 dX1_stepSquare_6 rfl (lv_at hl 3 rfl) ?_
  refine lv_bipush (v := 120) S.1 S.2.1 dX1_stepSquare_7 (by decide) ?_
  refine lv_icmp_le (tgt := 21) S.1 S.2.1 dX1_stepSquare_9 (by decide) (fun cq => ?_) (fun cq => ?_)
  · have h := d_t cq h
    refine lv_iload_n S.1 S.2.1 dX1_stepSquare_21 rfl (lv_at hl 0 rfl) ?_
    refine lv_iload_n S.1 S.2.1 dX1_stepSquare_22 rfl (lv_at hl 0 rfl) ?_
    refine lv_imul S.1 S.2.1 dX1_stepSquare_23 ?_
    obtain rfl := Option.some.inj h
    exact dti S hr hlk hE hP hS rfl dX1_stepSquare_24
  · have h := d_f cq h
    refine lv_iload_n S.1 S.2.1 dX1_stepSquare_12 rfl (lv_at hl 0 rfl) ?_
    refine lv_bipush (v := 120) S.1 S.2.1 dX1_stepSquare_13 (by decide) ?_
    refine lv_imul S.1 S.2.1 dX1_stepSquare_15 ?_
    refine lv_iload_n S.1 S.2.1 dX1_stepSquare_16 rfl (lv_at hl 3 rfl) ?_
    obtain ⟨v4, hc3, h⟩ := d_b h
    refine dri (va_runSN (As := [.int (v2 * 120), .int p2]) (rest := []) S (kX11_downBy l g hc3) ⟨va_cnB 2 S.2.2.2.2 gX1_stepSquare_X11_downBy_n51 rfl rfl rfl (dnq_RX1_51 hE) (S.2.2.2.2 (.initialized RX11) (List.mem_of_getElem? (i := 8) rfl)) ynX11_downBy ⟨Nat.le_of_ble_eq_true rfl, Nat.le_of_ble_eq_true rfl⟩, S.2.2.2.2 (.static yX11_downBy) (List.mem_of_getElem? (i := 10) rfl), trivial⟩ (dpS hE hP hS) rfl rfl hl.1 rfl (lv_room (Nat.le_of_ble_eq_true rfl)) dX1_stepSquare_17 ⟨Nat.le_of_ble_eq_true rfl, Nat.le_of_ble_eq_true rfl⟩) hS (fun H locs hP hS => ?_)
    refine lv_istore_n (lv' := [(3, .int v4), (0, .ref (dad g p0)), (1, .int p1), (2, .int p2)]) S.1 S.2.1 dX1_stepSquare_20 rfl hl (by decide) rfl (fun ls hl => ?_)
    refine lv_iload_n S.1 S.2.1 dX1_stepSquare_21 rfl (lv_at hl 0 rfl) ?_
    refine lv_iload_n S.1 S.2.1 dX1_stepSquare_22 rfl (lv_at hl 0 rfl) ?_
    refine lv_imul S.1 S.2.1 dX1_stepSquare_23 ?_
    obtain rfl := Option.some.inj h
    exact dti S hr hlk hE hP hS rfl dX1_stepSquare_24
set_option maxRecDepth 20000 in
theorem ggX1_teach_X11_isWithin : GoodIn wsX1_teach wsX11_isWithin := goodIn_r _ [5] (by decide +kernel) (by decide +kernel)
set_option maxRecDepth 20000 in
theorem gX1_teach_X11_isWithin_n43 : GoodIn wsX1_teach (wsX11_isWithin) := ggX1_teach_X11_isWithin
theorem dX1_teach_0 : decode cX1_teach 0 = .ok (.iload_n 1, 1) := by decide +kernel
theorem dX1_teach_1 : decode cX1_teach 1 = .ok (.iconst 0, 1) := by decide +kernel
theorem dX1_teach_2 : decode cX1_teach 2 = .ok (.iconst 2, 1) := by decide +kernel
theorem dX1_teach_3 : decode cX1_teach 3 = .ok (.invokestatic 43, 3) := by decide +kernel
theorem dX1_teach_6 : decode cX1_teach 6 = .ok (.ifCond .eq 17, 3) := by decide +kernel
theorem dX1_teach_9 : decode cX1_teach 9 = .ok (.aload_n 0, 1) := by decide +kernel
theorem dX1_teach_10 : decode cX1_teach 10 = .ok (.getfield 19, 3) := by decide +kernel
theorem dX1_teach_13 : decode cX1_teach 13 = .ok (.iload_n 1, 1) := by decide +kernel
theorem dX1_teach_14 : decode cX1_teach 14 = .ok (.iload_n 2, 1) := by decide +kernel
theorem dX1_teach_15 : decode cX1_teach 15 = .ok (.iastore, 1) := by decide +kernel
theorem dX1_teach_16 : decode cX1_teach 16 = .ok (.aload_n 0, 1) := by decide +kernel
theorem dX1_teach_17 : decode cX1_teach 17 = .ok (.getfield 22, 3) := by decide +kernel
theorem dX1_teach_20 : decode cX1_teach 20 = .ok (.iload_n 1, 1) := by decide +kernel
theorem dX1_teach_21 : decode cX1_teach 21 = .ok (.iload_n 3, 1) := by decide +kernel
theorem dX1_teach_22 : decode cX1_teach 22 = .ok (.bastore, 1) := by decide +kernel
theorem dX1_teach_23 : decode cX1_teach 23 = .ok (.return_, 1) := by decide +kernel
def fX1_teach (m : dM) (p0 : Nat) (p1 : Int32) (p2 : Int32) (p3 : Int32) : Option dM := dg (dkg p0 2) ((fX11_isWithin m p1 0 2).bind (fun v2 => if v2 = 0 then some m else dg (dIx p1 (dL 4)) (dlet (d1 m 4 (Int32.toNatClampNeg (p1)) p2) (fun m3 => dg (dIx p1 (dL 5)) (dg (dB p3) (dlet (d1 m3 5 (Int32.toNatClampNeg (p1)) p3) (fun m4 => some m4)))))))
set_option maxHeartbeats 4000000 in
set_option maxRecDepth 100000 in
theorem kX1_teach (l : Launch) (g : dG) {m : dM} {p0 : Nat} {p1 : Int32} {p2 : Int32} {p3 : Int32} {m0 : dM} (h : fX1_teach m p0 p1 p2 p3 = some m0) : dMet l g yX1_teach wsX1_teach (dRm 1 22) [.ref (dad g p0), .int p1, .int p2, .int p3] m (dQV g m0) := by
  refine dof (cc := cX1_teach) (maxL := 4) (ret := none) _ (plainFor_of_name (by decide)) rfl (Nat.le_of_ble_eq_true rfl) ?_
  intro p e s mth below meth c S hr hlk hE H ls hP hS hl
  have S : CallFix p mth c cX1_teach 4 s _ wsX1_teach RX1 := S
  have hl : lv_has ls 4 [(0, .ref (dad g p0)), (1, .int p1), (2, .int p2), (3, .int p3)] := hl
  obtain ⟨locs, hlocs⟩ : ∃ z : List Loc, z = [] := ⟨_, rfl⟩
  rw [← hlocs] at hS ⊢
  have in1 : ∀ w ∈ wsX10, w ∈ wsX1_teach := by decide +kernel
  unfold fX1_teach at h
  obtain ⟨k0, h⟩ := d_g h
  have k0 := d_k k0
  refine lv_iload_n S.1 S.2.1 dX1_teach_0 rfl (lv_at hl 1 rfl) ?_
  refine lv_iconst (v := 0) S.1 S.2.1 dX1_teach_1 (by decide) ?_
  refine lv_iconst (v := 2) S.1 S.2.1 dX1_teach_2 (by decide) ?_
  obtain ⟨v2, hc1, h⟩ := d_b h
  refine dri (va_runSN (As := [.int p1, .int 0, .int 2]) (rest := []) S (kX11_isWithin l g hc1) ⟨va_cnB 3 S.2.2.2.2 gX1_teach_X11_isWithin_n43 rfl rfl rfl (dnq_RX1_43 hE) (S.2.2.2.2 (.initialized RX11) (List.mem_of_getElem? (i := 4) rfl)) ynX11_isWithin ⟨Nat.le_of_ble_eq_true rfl, Nat.le_of_ble_eq_true rfl⟩, S.2.2.2.2 (.static yX11_isWithin) (List.mem_of_getElem? (i := 3) rfl), trivial⟩ (dpS hE hP hS) rfl rfl hl.1 rfl (lv_room (Nat.le_of_ble_eq_true rfl)) dX1_teach_3 ⟨Nat.le_of_ble_eq_true rfl, Nat.le_of_ble_eq_true rfl⟩) hS (fun H locs hP hS => ?_)
  refine lv_if_eq (tgt := 23) S.1 S.2.1 dX1_teach_6 (by decide) (fun cq => ?_) (fun cq => ?_)
  · have h := d_t cq h
    obtain rfl := Option.some.inj h
    exact dtv S hr hlk hE hP hS dX1_teach_23
  · have h := d_f cq h
    refine lv_aload_n S.1 S.2.1 dX1_teach_9 rfl (lv_at hl 0 rfl) ?_
    refine dgf1_2 S in1 hE hP k0 (S.2.2.2.2 (.fieldLink RX1 19 "DrillField$Dots" "known" "[I") (List.mem_of_getElem? (i := 1) rfl)) dX1_teach_10 ?_
    refine lv_iload_n S.1 S.2.1 dX1_teach_13 rfl (lv_at hl 1 rfl) ?_
    refine lv_iload_n S.1 S.2.1 dX1_teach_14 rfl (lv_at hl 2 rfl) ?_
    obtain ⟨hi, h⟩ := d_g h
    refine d_iast S hE hP hS dk_4 hi dX1_teach_15 (fun H locs hP hS => ?_)
    obtain ⟨m3, em3⟩ : ∃ z : dM, z = d1 m 4 (Int32.toNatClampNeg (p1)) p2 := ⟨_, rfl⟩
    have h := d_let em3 h
    rw [← em3] at hP
    refine lv_aload_n S.1 S.2.1 dX1_teach_16 rfl (lv_at hl 0 rfl) ?_
    refine dgf1_3 S in1 hE hP k0 (S.2.2.2.2 (.fieldLink RX1 22 "DrillField$Dots" "isAlternateIll" "[Z") (List.mem_of_getElem? (i := 2) rfl)) dX1_teach_17 ?_
    refine lv_iload_n S.1 S.2.1 dX1_teach_20 rfl (lv_at hl 1 rfl) ?_
    refine lv_iload_n S.1 S.2.1 dX1_teach_21 rfl (lv_at hl 3 rfl) ?_
    obtain ⟨hi, h⟩ := d_g h
    obtain ⟨hb, h⟩ := d_g h
    refine d_zast S hE hP hS dk_5 hi hb dX1_teach_22 (fun H locs hP hS => ?_)
    obtain ⟨m4, em4⟩ : ∃ z : dM, z = d1 m3 5 (Int32.toNatClampNeg (p1)) p3 := ⟨_, rfl⟩
    have h := d_let em4 h
    rw [← em4] at hP
    obtain rfl := Option.some.inj h
    exact dtv S hr hlk hE hP hS dX1_teach_23
