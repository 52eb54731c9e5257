theorem dX8_number_0 : decode cX8_number 0 = .ok (.aload_n 0, 1) := by decide +kernel
theorem dX8_number_1 : decode cX8_number 1 = .ok (.getfield 29, 3) := by decide +kernel
theorem dX8_number_4 : decode cX8_number 4 = .ok (.ireturn, 1) := by decide +kernel
def fX8_number (m : dM) (p0 : Nat) : Option Int32 := dg (dkg p0 9) (some (m.1 p0 3))
set_option maxHeartbeats 4000000 in
set_option maxRecDepth 100000 in
theorem kX8_number (l : Launch) (g : dG) {m : dM} {p0 : Nat} {r0 : Int32} (h : fX8_number m p0 = some r0) : dMet l g yX8_number wsX8_number (dRm 0 0) [.ref (dad g p0)] m (dQI g r0 m) := by
  refine dof (cc := cX8_number) (maxL := 1) (ret := (some .int)) _ (plainFor_of_name (by decide)) rfl (Nat.le_of_ble_eq_true rfl) ?_
  intro p e s mth below meth c S hr hlk hE H ls hP hS hl
  have S : CallFix p mth c cX8_number 1 s _ wsX8_number RX8 := S
  have hl : lv_has ls 1 [(0, .ref (dad g p0))] := hl
  obtain ⟨locs, hlocs⟩ : ∃ z : List Loc, z = [] := ⟨_, rfl⟩
  rw [← hlocs] at hS ⊢
  have in8 : ∀ w ∈ wsX80, w ∈ wsX8_number := by decide +kernel
  unfold fX8_number at h
  obtain ⟨k0, h⟩ := d_g h
  have k0 := d_k k0
  refine lv_aload_n S.1 S.2.1 dX8_number_0 rfl (lv_at hl 0 rfl) ?_
  refine dgf8_3 S in8 hE hP k0 (S.2.2.2.2 (.fieldLink RX8 29 "DrillField$Show" "number" "I") (List.mem_of_getElem? (i := 1) rfl)) dX8_number_1 ?_
  obtain rfl := Option.some.inj h
  exact dti S hr hlk hE hP hS rfl dX8_number_4
set_option maxRecDepth 20000 in
theorem ggX8_numbered_X11_isWithin : GoodIn wsX8_numbered wsX11_isWithin := goodIn_r _ [5] (by decide +kernel) (by decide +kernel)
set_option maxRecDepth 20000 in
theorem gX8_numbered_X11_isWithin_n33 : GoodIn wsX8_numbered (wsX11_isWithin) := ggX8_numbered_X11_isWithin
theorem dX8_numbered_0 : decode cX8_numbered 0 = .ok (.iload_n 1, 1) := by decide +kernel
theorem dX8_numbered_1 : decode cX8_numbered 1 = .ok (.iconst 0, 1) := by decide +kernel
theorem dX8_numbered_2 : decode cX8_numbered 2 = .ok (.bipush 11, 2) := by decide +kernel
theorem dX8_numbered_4 : decode cX8_numbered 4 = .ok (.invokestatic 33, 3) := by decide +kernel
theorem dX8_numbered_7 : decode cX8_numbered 7 = .ok (.ifCond .eq 21, 3) := by decide +kernel
theorem dX8_numbered_10 : decode cX8_numbered 10 = .ok (.aload_n 0, 1) := by decide +kernel
theorem dX8_numbered_11 : decode cX8_numbered 11 = .ok (.getfield 11, 3) := by decide +kernel
theorem dX8_numbered_14 : decode cX8_numbered 14 = .ok (.iload_n 1, 1) := by decide +kernel
theorem dX8_numbered_15 : decode cX8_numbered 15 = .ok (.aaload, 1) := by decide +kernel
theorem dX8_numbered_16 : decode cX8_numbered 16 = .ok (.ifnull 12, 3) := by decide +kernel
theorem dX8_numbered_19 : decode cX8_numbered 19 = .ok (.aload_n 0, 1) := by decide +kernel
theorem dX8_numbered_20 : decode cX8_numbered 20 = .ok (.getfield 11, 3) := by decide +kernel
theorem dX8_numbered_23 : decode cX8_numbered 23 = .ok (.iload_n 1, 1) := by decide +kernel
theorem dX8_numbered_24 : decode cX8_numbered 24 = .ok (.aaload, 1) := by decide +kernel
theorem dX8_numbered_25 : decode cX8_numbered 25 = .ok (.goto 7, 3) := by decide +kernel
theorem dX8_numbered_28 : decode cX8_numbered 28 = .ok (.aload_n 0, 1) := by decide +kernel
theorem dX8_numbered_29 : decode cX8_numbered 29 = .ok (.getfield 18, 3) := by decide +kernel
theorem dX8_numbered_32 : decode cX8_numbered 32 = .ok (.areturn, 1) := by decide +kernel
def fX8_numbered (m : dM) (p0 : Nat) (p1 : Int32) : Option Nat := dg (dkg p0 9) ((fX11_isWithin m p1 0 11).bind (fun v2 => if v2 = 0 then some 145 else dg (dIx p1 (dL 48)) (dg (dkg (48 + 1 + 8 * (Int32.toNatClampNeg (p1))) 6) (dg (dIx p1 (dL 48)) (dg (dkg (48 + 1 + 8 * (Int32.toNatClampNeg (p1))) 6) (some (48 + 1 + 8 * (Int32.toNatClampNeg (p1)))))))))
set_option maxHeartbeats 4000000 in
set_option maxRecDepth 100000 in
theorem kX8_numbered (l : Launch) (g : dG) {m : dM} {p0 : Nat} {p1 : Int32} {r0 : Nat} (h : fX8_numbered m p0 p1 = some r0) : dMet l g yX8_numbered wsX8_numbered (dRm 1 22) [.ref (dad g p0), .int p1] m (dQR g r0 m) := by
  refine dof (cc := cX8_numbered) (maxL := 2) (ret := (some (.object "DrillField$Part"))) _ (plainFor_of_name (by decide)) rfl (Nat.le_of_ble_eq_true rfl) ?_
  intro p e s mth below meth c S hr hlk hE H ls hP hS hl
  have S : CallFix p mth c cX8_numbered 2 s _ wsX8_numbered RX8 := S
  have hl : lv_has ls 2 [(0, .ref (dad g p0)), (1, .int p1)] := hl
  obtain ⟨locs, hlocs⟩ : ∃ z : List Loc, z = [] := ⟨_, rfl⟩
  rw [← hlocs] at hS ⊢
  have in8 : ∀ w ∈ wsX80, w ∈ wsX8_numbered := by decide +kernel
  unfold fX8_numbered at h
  obtain ⟨k0, h⟩ := d_g h
  have k0 := d_k k0
  refine lv_iload_n S.1 S.2.1 dX8_numbered_0 rfl (lv_at hl 1 rfl) ?_
  refine lv_iconst (v := 0) S.1 S.2.1 dX8_numbered_1 (by decide) ?_
  refine lv_bipush (v := 11) S.1 S.2.1 dX8_numbered_2 (by decide) ?_
  obtain ⟨v2, hc1, h⟩ := d_b h
  refine dri (va_runSN (As := [.int p1, .int 0, .int 11]) (rest := []) S (kX11_isWithin l g hc1) ⟨va_cnB 3 S.2.2.2.2 gX8_numbered_X11_isWithin_n33 rfl rfl rfl (dnq_RX8_33 hE) (S.2.2.2.2 (.initialized RX11) (List.mem_of_getElem? (i := 4) rfl)) ynX11_isWithin ⟨Nat.le_of_ble_eq_true rfl, Nat.le_of_ble_eq_true rfl⟩, S.2.2.2.2 (.static yX11_isWithin) (List.mem_of_getElem? (i := 3) rfl), trivial⟩ (dpS hE hP hS) rfl rfl hl.1 rfl (lv_room (Nat.le_of_ble_eq_true rfl)) dX8_numbered_4 ⟨Nat.le_of_ble_eq_true rfl, Nat.le_of_ble_eq_true rfl⟩) hS (fun H locs hP hS => ?_)
  refine lv_if_eq (tgt := 28) S.1 S.2.1 dX8_numbered_7 (by decide) (fun cq => ?_) (fun cq => ?_)
  · have h := d_t cq h
    refine lv_aload_n S.1 S.2.1 dX8_numbered_28 rfl (lv_at hl 0 rfl) ?_
    refine dgf8_1 S in8 hE hP k0 (S.2.2.2.2 (.fieldLink RX8 18 "DrillField$Show" "spare" "LDrillField$Part;") (List.mem_of_getElem? (i := 2) rfl)) dX8_numbered_29 ?_
    obtain rfl := Option.some.inj h
    exact dtr S hr hlk hE hP hS dX8_numbered_32
  · have h := d_f cq h
    refine lv_aload_n S.1 S.2.1 dX8_numbered_10 rfl (lv_at hl 0 rfl) ?_
    refine dgf8_0 S in8 hE hP k0 (S.2.2.2.2 (.fieldLink RX8 11 "DrillField$Show" "parts" "[LDrillField$Part;") (List.mem_of_getElem? (i := 1) rfl)) dX8_numbered_11 ?_
    refine lv_iload_n S.1 S.2.1 dX8_numbered_14 rfl (lv_at hl 1 rfl) ?_
    obtain ⟨hi, h⟩ := d_g h
    obtain ⟨hk3, h⟩ := d_g h
    have hk3 := d_k hk3
    refine d_aald (r := dad g (48 + 1 + 8 * (Int32.toNatClampNeg (p1)))) (ty := .object "DrillField$Part") 3 S hE hP (dat23 dk_48) rfl rfl hi (if_pos (dIx_lt hi)) dX8_numbered_15 ?_
    refine lv_ifnull S.1 S.2.1 dX8_numbered_16 ?_
    refine lv_aload_n S.1 S.2.1 dX8_numbered_19 rfl (lv_at hl 0 rfl) ?_
    refine dgf8_0 S in8 hE hP k0 (S.2.2.2.2 (.fieldLink RX8 11 "DrillField$Show" "parts" "[LDrillField$Part;") (List.mem_of_getElem? (i := 1) rfl)) dX8_numbered_20 ?_
    refine lv_iload_n S.1 S.2.1 dX8_numbered_23 rfl (lv_at hl 1 rfl) ?_
    obtain ⟨hi, h⟩ := d_g h
    obtain ⟨hk4, h⟩ := d_g h
    have hk4 := d_k hk4
    refine d_aald (r := dad g (48 + 1 + 8 * (Int32.toNatClampNeg (p1)))) (ty := .object "DrillField$Part") 3 S hE hP (dat23 dk_48) rfl rfl hi (if_pos (dIx_lt hi)) dX8_numbered_24 ?_
    refine lv_goto (tgt := 32) S.1 S.2.1 dX8_numbered_25 (by decide) ?_
    obtain rfl := Option.some.inj h
    exact dtr S hr hlk hE hP hS dX8_numbered_32
set_option maxRecDepth 20000 in
theorem ggX4_narrowGaps_X11_isInRow : GoodIn wsX4_narrowGaps wsX11_isInRow := goodIn_r _ [10] (by decide +kernel) (by decide +kernel)
set_option maxRecDepth 20000 in
theorem gX4_narrowGaps_X11_isInRow_n85 : GoodIn wsX4_narrowGaps (wsX11_isInRow) := ggX4_narrowGaps_X11_isInRow
theorem dX4_narrowGaps_0 : decode cX4_narrowGaps 0 = .ok (.iload_n 1, 1) := by decide +kernel
theorem dX4_narrowGaps_1 : decode cX4_narrowGaps 1 = .ok (.invokestatic 85, 3) := by decide +kernel
theorem dX4_narrowGaps_4 : decode cX4_narrowGaps 4 = .ok (.ifCond .ne 4, 3) := by decide +kernel
theorem dX4_narrowGaps_7 : decode cX4_narrowGaps 7 = .ok (.return_, 1) := by decide +kernel
theorem dX4_narrowGaps_8 : decode cX4_narrowGaps 8 = .ok (.iconst 0, 1) := by decide +kernel
theorem dX4_narrowGaps_9 : decode cX4_narrowGaps 9 = .ok (.istore_n 3, 1) := by decide +kernel
theorem dX4_narrowGaps_10 : decode cX4_narrowGaps 10 = .ok (.iload_n 3, 1) := by decide +kernel
theorem dX4_narrowGaps_11 : decode cX4_narrowGaps 11 = .ok (.aload_n 0, 1) := by decide +kernel
theorem dX4_narrowGaps_12 : decode cX4_narrowGaps 12 = .ok (.getfield 43, 3) := by decide +kernel
theorem dX4_narrowGaps_15 : decode cX4_narrowGaps 15 = .ok (.if_icmp .ge 69, 3) := by decide +kernel
theorem dX4_narrowGaps_18 : decode cX4_narrowGaps 18 = .ok (.aload_n 0, 1) := by decide +kernel
theorem dX4_narrowGaps_19 : decode cX4_narrowGaps 19 = .ok (.getfield 11, 3) := by decide +kernel
theorem dX4_narrowGaps_22 : decode cX4_narrowGaps 22 = .ok (.iload_n 1, 1) := by decide +kernel
theorem dX4_narrowGaps_23 : decode cX4_narrowGaps 23 = .ok (.aaload, 1) := by decide +kernel
theorem dX4_narrowGaps_24 : decode cX4_narrowGaps 24 = .ok (.iload_n 3, 1) := by decide +kernel
theorem dX4_narrowGaps_25 : decode cX4_narrowGaps 25 = .ok (.laload, 1) := by decide +kernel
theorem dX4_narrowGaps_26 : decode cX4_narrowGaps 26 = .ok (.aload_n 0, 1) := by decide +kernel
theorem dX4_narrowGaps_27 : decode cX4_narrowGaps 27 = .ok (.getfield 16, 3) := by decide +kernel
theorem dX4_narrowGaps_30 : decode cX4_narrowGaps 30 = .ok (.iload_n 1, 1) := by decide +kernel
theorem dX4_narrowGaps_31 : decode cX4_narrowGaps 31 = .ok (.laload, 1) := by decide +kernel
theorem dX4_narrowGaps_32 : decode cX4_narrowGaps 32 = .ok (.lsub, 1) := by decide +kernel
theorem dX4_narrowGaps_33 : decode cX4_narrowGaps 33 = .ok (.aload_n 0, 1) := by decide +kernel
theorem dX4_narrowGaps_34 : decode cX4_narrowGaps 34 = .ok (.getfield 20, 3) := by decide +kernel
theorem dX4_narrowGaps_37 : decode cX4_narrowGaps 37 = .ok (.iload_n 3, 1) := by decide +kernel
theorem dX4_narrowGaps_38 : decode cX4_narrowGaps 38 = .ok (.laload, 1) := by decide +kernel
theorem dX4_narrowGaps_39 : decode cX4_narrowGaps 39 = .ok (.lsub, 1) := by decide +kernel
theorem dX4_narrowGaps_40 : decode cX4_narrowGaps 40 = .ok (.lstore 4, 2) := by decide +kernel
theorem dX4_narrowGaps_42 : decode cX4_narrowGaps 42 = .ok (.aload_n 0, 1) := by decide +kernel
theorem dX4_narrowGaps_43 : decode cX4_narrowGaps 43 = .ok (.getfield 33, 3) := by decide +kernel
theorem dX4_narrowGaps_46 : decode cX4_narrowGaps 46 = .ok (.iload_n 3, 1) := by decide +kernel
theorem dX4_narrowGaps_47 : decode cX4_narrowGaps 47 = .ok (.baload, 1) := by decide +kernel
theorem dX4_narrowGaps_48 : decode cX4_narrowGaps 48 = .ok (.ifCond .ne 30, 3) := by decide +kernel
theorem dX4_narrowGaps_51 : decode cX4_narrowGaps 51 = .ok (.lload 4, 2) := by decide +kernel
theorem dX4_narrowGaps_53 : decode cX4_narrowGaps 53 = .ok (.aload_n 0, 1) := by decide +kernel
theorem dX4_narrowGaps_54 : decode cX4_narrowGaps 54 = .ok (.getfield 23, 3) := by decide +kernel
theorem dX4_narrowGaps_57 : decode cX4_narrowGaps 57 = .ok (.iload_n 3, 1) := by decide +kernel
theorem dX4_narrowGaps_58 : decode cX4_narrowGaps 58 = .ok (.laload, 1) := by decide +kernel
theorem dX4_narrowGaps_59 : decode cX4_narrowGaps 59 = .ok (.lcmp, 1) := by decide +kernel
theorem dX4_narrowGaps_60 : decode cX4_narrowGaps 60 = .ok (.ifCond .ge 18, 3) := by decide +kernel
theorem dX4_narrowGaps_63 : decode cX4_narrowGaps 63 = .ok (.aload_n 0, 1) := by decide +kernel
theorem dX4_narrowGaps_64 : decode cX4_narrowGaps 64 = .ok (.getfield 23, 3) := by decide +kernel
theorem dX4_narrowGaps_67 : decode cX4_narrowGaps 67 = .ok (.iload_n 3, 1) := by decide +kernel
theorem dX4_narrowGaps_68 : decode cX4_narrowGaps 68 = .ok (.lload 4, 2) := by decide +kernel
theorem dX4_narrowGaps_70 : decode cX4_narrowGaps 70 = .ok (.lastore, 1) := by decide +kernel
theorem dX4_narrowGaps_71 : decode cX4_narrowGaps 71 = .ok (.aload_n 0, 1) := by decide +kernel
theorem dX4_narrowGaps_72 : decode cX4_narrowGaps 72 = .ok (.getfield 26, 3) := by decide +kernel
theorem dX4_narrowGaps_75 : decode cX4_narrowGaps 75 = .ok (.iload_n 3, 1) := by decide +kernel
theorem dX4_narrowGaps_76 : decode cX4_narrowGaps 76 = .ok (.iload_n 2, 1) := by decide +kernel
theorem dX4_narrowGaps_77 : decode cX4_narrowGaps 77 = .ok (.iastore, 1) := by decide +kernel
theorem dX4_narrowGaps_78 : decode cX4_narrowGaps 78 = .ok (.iinc 3 1, 3) := by decide +kernel
theorem dX4_narrowGaps_81 : decode cX4_narrowGaps 81 = .ok (.goto (-71), 3) := by decide +kernel
theorem dX4_narrowGaps_84 : decode cX4_narrowGaps 84 = .ok (.return_, 1) := by decide +kernel
def fX4_narrowGaps_l10 (p0 : Nat) (p1 : Int32) (p2 : Int32) (v4 : Int32) (m5 : dM) : Option ((Int32 × dM) ⊕ dM) := if (m5.1 p0 7) ≤ v4 then some (.inr m5) else dg (dIx p1 (dL 154)) (dg (dkg (154 + 1 + (Int32.toNatClampNeg (p1))) 22) (dg (dIx v4 (dL (154 + 1 + (Int32.toNatClampNeg (p1))))) (dg (dIx p1 (dL 165)) (dg (dIx v4 (dL 166)) (dlet (((m5.2 (154 + 1 + (Int32.toNatClampNeg (p1))) (Int32.toNatClampNeg (v4))) - (m5.2 165 (Int32.toNatClampNeg (p1)))) - (m5.2 166 (Int32.toNatClampNeg (v4))) : Int64) (fun v14 => dg (dIx v4 (dL 170)) (if (m5.1 170 (Int32.toNatClampNeg (v4))) = 0 then dg (dIx v4 (dL 167)) (if 0 ≤ (lg_cmp v14 (m5.2 167 (Int32.toNatClampNeg (v4)))) then dlet (v4 + 1 : Int32) (fun v16 => some (.inl (v16, m5))) else dg (dIx v4 (dL 167)) (dlet (d2 m5 167 (Int32.toNatClampNeg (v4)) v14) (fun m17 => dg (dIx v4 (dL 168)) (dlet (d1 m17 168 (Int32.toNatClampNeg (v4)) p2) (fun m18 => dlet (v4 + 1 : Int32) (fun v19 => some (.inl (v19, m18)))))))) else dlet (v4 + 1 : Int32) (fun v15 => some (.inl (v15, m5))))))))))
def fX4_narrowGaps (m : dM) (p0 : Nat) (p1 : Int32) (p2 : Int32) : Option dM := dg (dkg p0 5) ((fX11_isInRow m p1).bind (fun v2 => if v2 = 0 then some m else (dlp (fun q => dP2 q (fun v4 m5 => fX4_narrowGaps_l10 p0 p1 p2 v4 m5)) dFl (0, m)).bind (fun q => dP1 q (fun m20 => some m20))))
set_option maxHeartbeats 4000000 in
set_option maxRecDepth 100000 in
theorem kX4_narrowGaps (l : Launch) (g : dG) {m : dM} {p0 : Nat} {p1 : Int32} {p2 : Int32} {m0 : dM} (h : fX4_narrowGaps m p0 p1 p2 = some m0) : dMet l g yX4_narrowGaps wsX4_narrowGaps (dRm 1 20) [.ref (dad g p0), .int p1, .int p2] m (dQV g m0) := by
  refine dof (cc := cX4_narrowGaps) (maxL := 6) (ret := none) _ (plainFor_of_name (by decide)) rfl (Nat.le_of_ble_eq_true rfl) ?_
  intro p e s mth below meth c S hr hlk hE H ls hP hS hl
  have S : CallFix p mth c cX4_narrowGaps 6 s _ wsX4_narrowGaps RX4 := S
  have hl : lv_has ls 6 [(0, .ref (dad g p0)), (1, .int p1), (2, .int p2)] := hl
  obtain ⟨locs, hlocs⟩ : ∃ z : List Loc, z = [] := ⟨_, rfl⟩
  rw [← hlocs] at hS ⊢
  have in4 : ∀ w ∈ wsX40, w ∈ wsX4_narrowGaps := by decide +kernel
  unfold fX4_narrowGaps at h
  obtain ⟨k0, h⟩ := d_g h
  have k0 := d_k k0
  refine lv_iload_n S.1 S.2.1 dX4_narrowGaps_0 rfl (lv_at hl 1 rfl) ?_
  obtain ⟨v2, hc1, h⟩ := d_b h
  refine dri (va_runSN (As := [.int p1]) (rest := []) S (kX11_isInRow l g hc1) ⟨va_cnB 1 S.2.2.2.2 gX4_narrowGaps_X11_isInRow_n85 rfl rfl rfl (dnq_RX4_85 hE) (S.2.2.2.2 (.initialized RX11) (List.mem_of_getElem? (i := 9) rfl)) ynX11_isInRow ⟨Nat.le_of_ble_eq_true rfl, Nat.le_of_ble_eq_true rfl⟩, S.2.2.2.2 (.static yX11_isInRow) (List.mem_of_getElem? (i := 8) rfl), trivial⟩ (dpS hE hP hS) rfl rfl hl.1 rfl (lv_room (Nat.le_of_ble_eq_true rfl)) dX4_narrowGaps_1 ⟨Nat.le_of_ble_eq_true rfl, Nat.le_of_ble_eq_true rfl⟩) hS (fun H locs hP hS => ?_)
  refine lv_if_ne (tgt := 8) S.1 S.2.1 dX4_narrowGaps_4 (by decide) (fun cq => ?_) (fun cq => ?_)
  · have h := d_f cq h
    refine lv_iconst (v := 0) S.1 S.2.1 dX4_narrowGaps_8 (by decide) ?_
    refine lv_istore_n (lv' := [(3, .int 0), (0, .ref (dad g p0)), (1, .int p1), (2, .int p2)]) S.1 S.2.1 dX4_narrowGaps_9 rfl hl (by decide) rfl (fun ls hl => ?_)
    obtain ⟨qL3, hqL3, h⟩ := d_b h
    refine d_lp (Hd := fun q => match q with | (v4, m5) => ∀ (H : Heap) (locs : List Loc) (ls : Array Slot), va_P g.1 vwCl (dws g m5) H → va_S (dA g) s.heap H locs → lv_has ls 6 [(3, .int v4), (0, .ref (dad g p0)), (1, .int p1), (2, .int p2)] → W p l e (headSpec wsX4_narrowGaps (dRm 1 20)).room s mth (([.ref (dad g p0), .int p1, .int p2] : List Value).toArray) below meth c H locs 0 0 (MQ below (dQV g m0) (([.ref (dad g p0), .int p1, .int p2] : List Value).toArray) s 0 0 (dA g)) (F0 mth 10 ls [])) (K := fun q => (fun (m20 : _) => ∀ (H : Heap) (locs : List Loc) (ls : Array Slot), va_P g.1 vwCl (dws g m20) H → va_S (dA g) s.heap H locs → lv_has ls 6 [] → W p l e (headSpec wsX4_narrowGaps (dRm 1 20)).room s mth (([.ref (dad g p0), .int p1, .int p2] : List Value).toArray) below meth c H locs 0 0 (MQ below (dQV g m0) (([.ref (dad g p0), .int p1, .int p2] : List Value).toArray) s 0 0 (dA g)) (F0 mth 84 ls [])) q) ?_ dFl _ qL3 hqL3 ?_ H locs ls hP hS (lv_sub hl [0, 1, 2, 3] rfl)
    · intro q o h hCL3 hEL3
      obtain ⟨v4, m5⟩ := q
      have h : fX4_narrowGaps_l10 p0 p1 p2 v4 m5 = some o := h
      intro H locs ls hP hS hl
      have hP : va_P g.1 vwCl (dws g m5) H := hP
      have hl : lv_has ls 6 [(3, .int v4), (0, .ref (dad g p0)), (1, .int p1), (2, .int p2)] := hl
      unfold fX4_narrowGaps_l10 at h
      refine lv_iload_n S.1 S.2.1 dX4_narrowGaps_10 rfl (lv_at hl 0 rfl) ?_
      refine lv_aload_n S.1 S.2.1 dX4_narrowGaps_11 rfl (lv_at hl 1 rfl) ?_
      refine dgf4_7 S in4 hE hP k0 (S.2.2.2.2 (.fieldLink RX4 43 "DrillField$Pairing" "number" "I") (List.mem_of_getElem? (i := 1) rfl)) dX4_narrowGaps_12 ?_
      refine lv_icmp_ge (tgt := 84) S.1 S.2.1 dX4_narrowGaps_15 (by decide) (fun cq => ?_) (fun cq => ?_)
      · have h := d_t cq h
        obtain rfl := Option.some.inj h
        exact hEL3 _ rfl H locs ls hP hS (lv_sub hl [] rfl)
      · have h := d_f cq h
        refine lv_aload_n S.1 S.2.1 dX4_narrowGaps_18 rfl (lv_at hl 1 rfl) ?_
        refine dgf4_0 S in4 hE hP k0 (S.2.2.2.2 (.fieldLink RX4 11 "DrillField$Pairing" "weights" "[[J") (List.mem_of_getElem? (i := 2) rfl)) dX4_narrowGaps_19 ?_
        refine lv_iload_n S.1 S.2.1 dX4_narrowGaps_22 rfl (lv_at hl 2 rfl) ?_
        obtain ⟨hi, h⟩ := d_g h
        obtain ⟨hk13, h⟩ := d_g h
        have hk13 := d_k hk13
        refine d_aald (r := dad g (154 + 1 + (Int32.toNatClampNeg (p1)))) (ty := .array .long) 6 S hE hP (dat26 dk_154) rfl rfl hi (if_pos (dIx_lt hi)) dX4_narrowGaps_23 ?_
        refine lv_iload_n S.1 S.2.1 dX4_narrowGaps_24 rfl (lv_at hl 0 rfl) ?_
        obtain ⟨hi, h⟩ := d_g h
        refine d_lald S hE hP hk13 hi dX4_narrowGaps_25 ?_
        refine lv_aload_n S.1 S.2.1 dX4_narrowGaps_26 rfl (lv_at hl 1 rfl) ?_
        refine dgf4_1 S in4 hE hP k0 (S.2.2.2.2 (.fieldLink RX4 16 "DrillField$Pairing" "dotPrices" "[J") (List.mem_of_getElem? (i := 3) rfl)) dX4_narrowGaps_27 ?_
        refine lv_iload_n S.1 S.2.1 dX4_narrowGaps_30 rfl (lv_at hl 2 rfl) ?_
        obtain ⟨hi, h⟩ := d_g h
        refine d_lald S hE hP dk_165 hi dX4_narrowGaps_31 ?_
        refine lv_lsub S.1 S.2.1 dX4_narrowGaps_32 ?_
        refine lv_aload_n S.1 S.2.1 dX4_narrowGaps_33 rfl (lv_at hl 1 rfl) ?_
        refine dgf4_2 S in4 hE hP k0 (S.2.2.2.2 (.fieldLink RX4 20 "DrillField$Pairing" "placePrices" "[J") (List.mem_of_getElem? (i := 4) rfl)) dX4_narrowGaps_34 ?_
        refine lv_iload_n S.1 S.2.1 dX4_narrowGaps_37 rfl (lv_at hl 0 rfl) ?_
        obtain ⟨hi, h⟩ := d_g h
        refine d_lald S hE hP dk_166 hi dX4_narrowGaps_38 ?_
        refine lv_lsub S.1 S.2.1 dX4_narrowGaps_39 ?_
        refine lv_topl (fun v14 ev14 => ?_)
        have h := d_let ev14 h
        refine lv_lstore (lv' := [(4, .long v14), (3, .int v4), (0, .ref (dad g p0)), (1, .int p1), (2, .int p2)]) S.1 S.2.1 dX4_narrowGaps_40 hl (by decide) rfl (fun ls hl => ?_)
        refine lv_aload_n S.1 S.2.1 dX4_narrowGaps_42 rfl (lv_at hl 2 rfl) ?_
        refine dgf4_6 S in4 hE hP k0 (S.2.2.2.2 (.fieldLink RX4 33 "DrillField$Pairing" "isReached" "[Z") (List.mem_of_getElem? (i := 5) rfl)) dX4_narrowGaps_43 ?_
        refine lv_iload_n S.1 S.2.1 dX4_narrowGaps_46 rfl (lv_at hl 1 rfl) ?_
        obtain ⟨hi, h⟩ := d_g h
        refine d_zald S hE hP dk_170 hi dX4_narrowGaps_47 ?_
        refine lv_if_ne (tgt := 78) S.1 S.2.1 dX4_narrowGaps_48 (by decide) (fun cq => ?_) (fun cq => ?_)
        · have h := d_f cq h
          obtain ⟨v15, ev15⟩ : ∃ z : Int32, z = v4 + 1 := ⟨_, rfl⟩
          have h := d_let ev15 h
          refine lv_iinc (v := v15) (lv' := [(3, .int v15), (4, .long v14), (0, .ref (dad g p0)), (1, .int p1), (2, .int p2)]) S.1 S.2.1 dX4_narrowGaps_78 hl (k := 1) rfl (by rw [ev15]; rfl) (by decide) rfl (fun ls hl => ?_)
          refine lv_goto (tgt := 10) S.1 S.2.1 dX4_narrowGaps_81 (by decide) ?_
          obtain rfl := Option.some.inj h
          exact hCL3 _ rfl H locs ls hP hS (lv_sub hl [0, 2, 3, 4] rfl)
        · have h := d_t cq h
          refine lv_lload S.1 S.2.1 dX4_narrowGaps_51 (lv_at hl 0 rfl) ?_
          refine lv_aload_n S.1 S.2.1 dX4_narrowGaps_53 rfl (lv_at hl 2 rfl) ?_
          refine dgf4_3 S in4 hE hP k0 (S.2.2.2.2 (.fieldLink RX4 23 "DrillField$Pairing" "gaps" "[J") (List.mem_of_getElem? (i := 6) rfl)) dX4_narrowGaps_54 ?_
          refine lv_iload_n S.1 S.2.1 dX4_narrowGaps_57 rfl (lv_at hl 1 rfl) ?_
          obtain ⟨hi, h⟩ := d_g h
          refine d_lald S hE hP dk_167 hi dX4_narrowGaps_58 ?_
          refine W.lcmp S.1 S.2.1 dX4_narrowGaps_59 ?_
          refine lv_if_ge (tgt := 78) S.1 S.2.1 dX4_narrowGaps_60 (by decide) (fun cq => ?_) (fun cq => ?_)
          · have h := d_t cq h
            obtain ⟨v16, ev16⟩ : ∃ z : Int32, z = v4 + 1 := ⟨_, rfl⟩
            have h := d_let ev16 h
            refine lv_iinc (v := v16) (lv' := [(3, .int v16), (4, .long v14), (0, .ref (dad g p0)), (1, .int p1), (2, .int p2)]) S.1 S.2.1 dX4_narrowGaps_78 hl (k := 1) rfl (by rw [ev16]; rfl) (by decide) rfl (fun ls hl => ?_)
            refine lv_goto (tgt := 10) S.1 S.2.1 dX4_narrowGaps_81 (by decide) ?_
            obtain rfl := Option.some.inj h
            exact hCL3 _ rfl H locs ls hP hS (lv_sub hl [0, 2, 3, 4] rfl)
          · have h := d_f cq h
            refine lv_aload_n S.1 S.2.1 dX4_narrowGaps_63 rfl (lv_at hl 2 rfl) ?_
            refine dgf4_3 S in4 hE hP k0 (S.2.2.2.2 (.fieldLink RX4 23 "DrillField$Pairing" "gaps" "[J") (List.mem_of_getElem? (i := 6) rfl)) dX4_narrowGaps_64 ?_
            refine lv_iload_n S.1 S.2.1 dX4_narrowGaps_67 rfl (lv_at hl 1 rfl) ?_
            refine lv_lload S.1 S.2.1 dX4_narrowGaps_68 (lv_at hl 0 rfl) ?_
            obtain ⟨hi, h⟩ := d_g h
            refine d_last S hE hP hS dk_167 hi dX4_narrowGaps_70 (fun H locs hP hS => ?_)
            obtain ⟨m17, em17⟩ : ∃ z : dM, z = d2 m5 167 (Int32.toNatClampNeg (v4)) v14 := ⟨_, rfl⟩
            have h := d_let em17 h
            rw [← em17] at hP
            refine lv_aload_n S.1 S.2.1 dX4_narrowGaps_71 rfl (lv_at hl 2 rfl) ?_
            refine dgf4_4 S in4 hE hP k0 (S.2.2.2.2 (.fieldLink RX4 26 "DrillField$Pairing" "ahead" "[I") (List.mem_of_getElem? (i := 7) rfl)) dX4_narrowGaps_72 ?_
            refine lv_iload_n S.1 S.2.1 dX4_narrowGaps_75 rfl (lv_at hl 1 rfl) ?_
            refine lv_iload_n S.1 S.2.1 dX4_narrowGaps_76 rfl (lv_at hl 4 rfl) ?_
            obtain ⟨hi, h⟩ := d_g h
            refine d_iast S hE hP hS dk_168 hi dX4_narrowGaps_77 (fun H locs hP hS => ?_)
            obtain ⟨m18, em18⟩ : ∃ z : dM, z = d1 m17 168 (Int32.toNatClampNeg (v4)) p2 := ⟨_, rfl⟩
            have h := d_let em18 h
            rw [← em18] at hP
            obtain ⟨v19, ev19⟩ : ∃ z : Int32, z = v4 + 1 := ⟨_, rfl⟩
            have h := d_let ev19 h
            refine lv_iinc (v := v19) (lv' := [(3, .int v19), (4, .long v14), (0, .ref (dad g p0)), (1, .int p1), (2, .int p2)]) S.1 S.2.1 dX4_narrowGaps_78 hl (k := 1) rfl (by rw [ev19]; rfl) (by decide) rfl (fun ls hl => ?_)
            refine lv_goto (tgt := 10) S.1 S.2.1 dX4_narrowGaps_81 (by decide) ?_
            obtain rfl := Option.some.inj h
            exact hCL3 _ rfl H locs ls hP hS (lv_sub hl [0, 2, 3, 4] rfl)
    · obtain ⟨m20, rfl⟩ : ∃ z, z = qL3 := ⟨_, rfl⟩
      have h := d_p1 h
      intro H locs ls hP hS hl
      have hP : va_P g.1 vwCl (dws g m20) H := hP
      have hl : lv_has ls 6 [] := hl
      obtain rfl := Option.some.inj h
      exact dtv S hr hlk hE hP hS dX4_narrowGaps_84
  · have h := d_t cq h
    obtain rfl := Option.some.inj h
    exact dtv S hr hlk hE hP hS dX4_narrowGaps_7
theorem dX4_nearestPlace_0 : decode cX4_nearestPlace 0 = .ok (.iconst (-1), 1) := by decide +kernel
theorem dX4_nearestPlace_1 : decode cX4_nearestPlace 1 = .ok (.istore_n 1, 1) := by decide +kernel
theorem dX4_nearestPlace_2 : decode cX4_nearestPlace 2 = .ok (.ldc2_w 75, 3) := by decide +kernel
theorem dX4_nearestPlace_5 : decode cX4_nearestPlace 5 = .ok (.lstore_n 2, 1) := by decide +kernel
theorem dX4_nearestPlace_6 : decode cX4_nearestPlace 6 = .ok (.iconst 0, 1) := by decide +kernel
theorem dX4_nearestPlace_7 : decode cX4_nearestPlace 7 = .ok (.istore 4, 2) := by decide +kernel
theorem dX4_nearestPlace_9 : decode cX4_nearestPlace 9 = .ok (.iload 4, 2) := by decide +kernel
theorem dX4_nearestPlace_11 : decode cX4_nearestPlace 11 = .ok (.aload_n 0, 1) := by decide +kernel
theorem dX4_nearestPlace_12 : decode cX4_nearestPlace 12 = .ok (.getfield 43, 3) := by decide +kernel
theorem dX4_nearestPlace_15 : decode cX4_nearestPlace 15 = .ok (.if_icmp .ge 42, 3) := by decide +kernel
theorem dX4_nearestPlace_18 : decode cX4_nearestPlace 18 = .ok (.aload_n 0, 1) := by decide +kernel
theorem dX4_nearestPlace_19 : decode cX4_nearestPlace 19 = .ok (.getfield 33, 3) := by decide +kernel
theorem dX4_nearestPlace_22 : decode cX4_nearestPlace 22 = .ok (.iload 4, 2) := by decide +kernel
theorem dX4_nearestPlace_24 : decode cX4_nearestPlace 24 = .ok (.baload, 1) := by decide +kernel
theorem dX4_nearestPlace_25 : decode cX4_nearestPlace 25 = .ok (.ifCond .ne 26, 3) := by decide +kernel
theorem dX4_nearestPlace_28 : decode cX4_nearestPlace 28 = .ok (.aload_n 0, 1) := by decide +kernel
theorem dX4_nearestPlace_29 : decode cX4_nearestPlace 29 = .ok (.getfield 23, 3) := by decide +kernel
theorem dX4_nearestPlace_32 : decode cX4_nearestPlace 32 = .ok (.iload 4, 2) := by decide +kernel
theorem dX4_nearestPlace_34 : decode cX4_nearestPlace 34 = .ok (.laload, 1) := by decide +kernel
theorem dX4_nearestPlace_35 : decode cX4_nearestPlace 35 = .ok (.lload_n 2, 1) := by decide +kernel
theorem dX4_nearestPlace_36 : decode cX4_nearestPlace 36 = .ok (.lcmp, 1) := by decide +kernel
theorem dX4_nearestPlace_37 : decode cX4_nearestPlace 37 = .ok (.ifCond .ge 14, 3) := by decide +kernel
theorem dX4_nearestPlace_40 : decode cX4_nearestPlace 40 = .ok (.aload_n 0, 1) := by decide +kernel
theorem dX4_nearestPlace_41 : decode cX4_nearestPlace 41 = .ok (.getfield 23, 3) := by decide +kernel
theorem dX4_nearestPlace_44 : decode cX4_nearestPlace 44 = .ok (.iload 4, 2) := by decide +kernel
theorem dX4_nearestPlace_46 : decode cX4_nearestPlace 46 = .ok (.laload, 1) := by decide +kernel
theorem dX4_nearestPlace_47 : decode cX4_nearestPlace 47 = .ok (.lstore_n 2, 1) := by decide +kernel
theorem dX4_nearestPlace_48 : decode cX4_nearestPlace 48 = .ok (.iload 4, 2) := by decide +kernel
theorem dX4_nearestPlace_50 : decode cX4_nearestPlace 50 = .ok (.istore_n 1, 1) := by decide +kernel
theorem dX4_nearestPlace_51 : decode cX4_nearestPlace 51 = .ok (.iinc 4 1, 3) := by decide +kernel
theorem dX4_nearestPlace_54 : decode cX4_nearestPlace 54 = .ok (.goto (-45), 3) := by decide +kernel
theorem dX4_nearestPlace_57 : decode cX4_nearestPlace 57 = .ok (.iload_n 1, 1) := by decide +kernel
theorem dX4_nearestPlace_58 : decode cX4_nearestPlace 58 = .ok (.ireturn, 1) := by decide +kernel
def fX4_nearestPlace_l9 (m : dM) (p0 : Nat) (v2 : Int32) (v3 : Int64) (v4 : Int32) : Option ((Int32 × Int64 × Int32) ⊕ Int32) := if (m.1 p0 7) ≤ v2 then some (.inr v4) else dg (dIx v2 (dL 170)) (if (m.1 170 (Int32.toNatClampNeg (v2))) = 0 then dg (dIx v2 (dL 167)) (if 0 ≤ (lg_cmp (m.2 167 (Int32.toNatClampNeg (v2))) v3) then dlet (v2 + 1 : Int32) (fun v10 => some (.inl (v10, v3, v4))) else dg (dIx v2 (dL 167)) (dlet (m.2 167 (Int32.toNatClampNeg (v2)) : Int64) (fun v11 => dlet (v2 + 1 : Int32) (fun v12 => some (.inl (v12, v11, v2)))))) else dlet (v2 + 1 : Int32) (fun v9 => some (.inl (v9, v3, v4))))
def fX4_nearestPlace (m : dM) (p0 : Nat) : Option Int32 := dg (dkg p0 5) ((dlp (fun q => dP3 q (fun v2 v3 v4 => fX4_nearestPlace_l9 m p0 v2 v3 v4)) dFl (0, 9223372036854775807, (-1))).bind (fun q => dP1 q (fun v13 => some v13)))
set_option maxHeartbeats 4000000 in
set_option maxRecDepth 100000 in
theorem kX4_nearestPlace (l : Launch) (g : dG) {m : dM} {p0 : Nat} {r0 : Int32} (h : fX4_nearestPlace m p0 = some r0) : dMet l g yX4_nearestPlace wsX4_nearestPlace (dRm 0 0) [.ref (dad g p0)] m (dQI g r0 m) := by
  refine dof (cc := cX4_nearestPlace) (maxL := 5) (ret := (some .int)) _ (plainFor_of_name (by decide)) rfl (Nat.le_of_ble_eq_true rfl) ?_
  intro p e s mth below meth c S hr hlk hE H ls hP hS hl
  have S : CallFix p mth c cX4_nearestPlace 5 s _ wsX4_nearestPlace RX4 := S
  have hl : lv_has ls 5 [(0, .ref (dad g p0))] := hl
  obtain ⟨locs, hlocs⟩ : ∃ z : List Loc, z = [] := ⟨_, rfl⟩
  rw [← hlocs] at hS ⊢
  have in4 : ∀ w ∈ wsX40, w ∈ wsX4_nearestPlace := by decide +kernel
  unfold fX4_nearestPlace at h
  obtain ⟨k0, h⟩ := d_g h
  have k0 := d_k k0
  refine lv_iconst (v := (-1)) S.1 S.2.1 dX4_nearestPlace_0 (by decide) ?_
  refine lv_istore_n (lv' := [(1, .int (-1)), (0, .ref (dad g p0))]) S.1 S.2.1 dX4_nearestPlace_1 rfl hl (by decide) rfl (fun ls hl => ?_)
  refine lv_ldc2 (v := 9223372036854775807) S.1 S.2.1 S.2.2.2.1 (S.2.2.2.2 (.constantLong RX4 75 (9223372036854775807)) (List.mem_of_getElem? (i := 1) rfl)) dX4_nearestPlace_2 ?_
  refine lv_lstore_n (lv' := [(2, .long 9223372036854775807), (1, .int (-1)), (0, .ref (dad g p0))]) S.1 S.2.1 dX4_nearestPlace_5 rfl hl (by decide) rfl (fun ls hl => ?_)
  refine lv_iconst (v := 0) S.1 S.2.1 dX4_nearestPlace_6 (by decide) ?_
  refine lv_istore (lv' := [(4, .int 0), (2, .long 9223372036854775807), (1, .int (-1)), (0, .ref (dad g p0))]) S.1 S.2.1 dX4_nearestPlace_7 hl (by decide) rfl (fun ls hl => ?_)
  obtain ⟨qL1, hqL1, h⟩ := d_b h
  refine d_lp (Hd := fun q => match q with | (v2, v3, v4) => ∀ (H : Heap) (locs : List Loc) (ls : Array Slot), va_P g.1 vwCl (dws g m) H → va_S (dA g) s.heap H locs → lv_has ls 5 [(4, .int v2), (2, .long v3), (1, .int v4), (0, .ref (dad g p0))] → W p l e (headSpec wsX4_nearestPlace (dRm 0 0)).room s mth (([.ref (dad g p0)] : List Value).toArray) below meth c H locs 0 0 (MQ below (dQI g r0 m) (([.ref (dad g p0)] : List Value).toArray) s 0 0 (dA g)) (F0 mth 9 ls [])) (K := fun q => (fun (v13 : _) => ∀ (H : Heap) (locs : List Loc) (ls : Array Slot), va_P g.1 vwCl (dws g m) H → va_S (dA g) s.heap H locs → lv_has ls 5 [(1, .int v13)] → W p l e (headSpec wsX4_nearestPlace (dRm 0 0)).room s mth (([.ref (dad g p0)] : List Value).toArray) below meth c H locs 0 0 (MQ below (dQI g r0 m) (([.ref (dad g p0)] : List Value).toArray) s 0 0 (dA g)) (F0 mth 57 ls [])) q) ?_ dFl _ qL1 hqL1 ?_ H locs ls hP hS (lv_sub hl [0, 1, 2, 3] rfl)
  · intro q o h hCL1 hEL1
    obtain ⟨v2, v3, v4⟩ := q
    have h : fX4_nearestPlace_l9 m p0 v2 v3 v4 = some o := h
    intro H locs ls hP hS hl
    have hP : va_P g.1 vwCl (dws g m) H := hP
    have hl : lv_has ls 5 [(4, .int v2), (2, .long v3), (1, .int v4), (0, .ref (dad g p0))] := hl
    unfold fX4_nearestPlace_l9 at h
    refine lv_iload S.1 S.2.1 dX4_nearestPlace_9 (lv_at hl 0 rfl) ?_
    refine lv_aload_n S.1 S.2.1 dX4_nearestPlace_11 rfl (lv_at hl 3 rfl) ?_
    refine dgf4_7 S in4 hE hP k0 (S.2.2.2.2 (.fieldLink RX4 43 "DrillField$Pairing" "number" "I") (List.mem_of_getElem? (i := 2) rfl)) dX4_nearestPlace_12 ?_
    refine lv_icmp_ge (tgt := 57) S.1 S.2.1 dX4_nearestPlace_15 (by decide) (fun cq => ?_) (fun cq => ?_)
    · have h := d_t cq h
      obtain rfl := Option.some.inj h
      exact hEL1 _ rfl H locs ls hP hS (lv_sub hl [2] rfl)
    · have h := d_f cq h
      refine lv_aload_n S.1 S.2.1 dX4_nearestPlace_18 rfl (lv_at hl 3 rfl) ?_
      refine dgf4_6 S in4 hE hP k0 (S.2.2.2.2 (.fieldLink RX4 33 "DrillField$Pairing" "isReached" "[Z") (List.mem_of_getElem? (i := 3) rfl)) dX4_nearestPlace_19 ?_
      refine lv_iload S.1 S.2.1 dX4_nearestPlace_22 (lv_at hl 0 rfl) ?_
      obtain ⟨hi, h⟩ := d_g h
      refine d_zald S hE hP dk_170 hi dX4_nearestPlace_24 ?_
      refine lv_if_ne (tgt := 51) S.1 S.2.1 dX4_nearestPlace_25 (by decide) (fun cq => ?_) (fun cq => ?_)
      · have h := d_f cq h
        obtain ⟨v9, ev9⟩ : ∃ z : Int32, z = v2 + 1 := ⟨_, rfl⟩
        have h := d_let ev9 h
        refine lv_iinc (v := v9) (lv' := [(4, .int v9), (2, .long v3), (1, .int v4), (0, .ref (dad g p0))]) S.1 S.2.1 dX4_nearestPlace_51 hl (k := 0) rfl (by rw [ev9]; rfl) (by decide) rfl (fun ls hl => ?_)
        refine lv_goto (tgt := 9) S.1 S.2.1 dX4_nearestPlace_54 (by decide) ?_
        obtain rfl := Option.some.inj h
        exact hCL1 _ rfl H locs ls hP hS (lv_sub hl [0, 1, 2, 3] rfl)
      · have h := d_t cq h
        refine lv_aload_n S.1 S.2.1 dX4_nearestPlace_28 rfl (lv_at hl 3 rfl) ?_
        refine dgf4_3 S in4 hE hP k0 (S.2.2.2.2 (.fieldLink RX4 23 "DrillField$Pairing" "gaps" "[J") (List.mem_of_getElem? (i := 4) rfl)) dX4_nearestPlace_29 ?_
        refine lv_iload S.1 S.2.1 dX4_nearestPlace_32 (lv_at hl 0 rfl) ?_
        obtain ⟨hi, h⟩ := d_g h
        refine d_lald S hE hP dk_167 hi dX4_nearestPlace_34 ?_
        refine lv_lload_n S.1 S.2.1 dX4_nearestPlace_35 rfl (lv_at hl 1 rfl) ?_
        refine W.lcmp S.1 S.2.1 dX4_nearestPlace_36 ?_
        refine lv_if_ge (tgt := 51) S.1 S.2.1 dX4_nearestPlace_37 (by decide) (fun cq => ?_) (fun cq => ?_)
        · have h := d_t cq h
          obtain ⟨v10, ev10⟩ : ∃ z : Int32, z = v2 + 1 := ⟨_, rfl⟩
          have h := d_let ev10 h
          refine lv_iinc (v := v10) (lv' := [(4, .int v10), (2, .long v3), (1, .int v4), (0, .ref (dad g p0))]) S.1 S.2.1 dX4_nearestPlace_51 hl (k := 0) rfl (by rw [ev10]; rfl) (by decide) rfl (fun ls hl => ?_)
          refine lv_goto (tgt := 9) S.1 S.2.1 dX4_nearestPlace_54 (by decide) ?_
          obtain rfl := Option.some.inj h
          exact hCL1 _ rfl H locs ls hP hS (lv_sub hl [0, 1, 2, 3] rfl)
        · have h := d_f cq h
          refine lv_aload_n S.1 S.2.1 dX4_nearestPlace_40 rfl (lv_at hl 3 rfl) ?_
          refine dgf4_3 S in4 hE hP k0 (S.2.2.2.2 (.fieldLink RX4 23 "DrillField$Pairing" "gaps" "[J") (List.mem_of_getElem? (i := 4) rfl)) dX4_nearestPlace_41 ?_
          refine lv_iload S.1 S.2.1 dX4_nearestPlace_44 (lv_at hl 0 rfl) ?_
          obtain ⟨hi, h⟩ := d_g h
          refine d_lald S hE hP dk_167 hi dX4_nearestPlace_46 ?_
          refine lv_topl (fun v11 ev11 => ?_)
          have h := d_let ev11 h
          refine lv_lstore_n (lv' := [(2, .long v11), (4, .int v2), (1, .int v4), (0, .ref (dad g p0))]) S.1 S.2.1 dX4_nearestPlace_47 rfl hl (by decide) rfl (fun ls hl => ?_)
          refine lv_iload S.1 S.2.1 dX4_nearestPlace_48 (lv_at hl 1 rfl) ?_
          refine lv_istore_n (lv' := [(1, .int v2), (2, .long v11), (4, .int v2), (0, .ref (dad g p0))]) S.1 S.2.1 dX4_nearestPlace_50 rfl hl (by decide) rfl (fun ls hl => ?_)
          obtain ⟨v12, ev12⟩ : ∃ z : Int32, z = v2 + 1 := ⟨_, rfl⟩
          have h := d_let ev12 h
          refine lv_iinc (v := v12) (lv' := [(4, .int v12), (1, .int v2), (2, .long v11), (0, .ref (dad g p0))]) S.1 S.2.1 dX4_nearestPlace_51 hl (k := 2) rfl (by rw [ev12]; rfl) (by decide) rfl (fun ls hl => ?_)
          refine lv_goto (tgt := 9) S.1 S.2.1 dX4_nearestPlace_54 (by decide) ?_
          obtain rfl := Option.some.inj h
          exact hCL1 _ rfl H locs ls hP hS (lv_sub hl [0, 2, 1, 3] rfl)
  · obtain ⟨v13, rfl⟩ : ∃ z, z = qL1 := ⟨_, rfl⟩
    have h := d_p1 h
    intro H locs ls hP hS hl
    have hP : va_P g.1 vwCl (dws g m) H := hP
    have hl : lv_has ls 5 [(1, .int v13)] := hl
    refine lv_iload_n S.1 S.2.1 dX4_nearestPlace_57 rfl (lv_at hl 0 rfl) ?_
    obtain rfl := Option.some.inj h
    exact dti S hr hlk hE hP hS rfl dX4_nearestPlace_58
set_option maxRecDepth 20000 in
theorem ggX4_raise_X11_isInRow : GoodIn wsX4_raise wsX11_isInRow := goodIn_r _ [4] (by decide +kernel) (by decide +kernel)
set_option maxRecDepth 20000 in
theorem gX4_raise_X11_isInRow_n85 : GoodIn wsX4_raise (wsX11_isInRow) := ggX4_raise_X11_isInRow
theorem dX4_raise_0 : decode cX4_raise 0 = .ok (.iload_n 1, 1) := by decide +kernel
theorem dX4_raise_1 : decode cX4_raise 1 = .ok (.invokestatic 85, 3) := by decide +kernel
theorem dX4_raise_4 : decode cX4_raise 4 = .ok (.ifCond .eq 13, 3) := by decide +kernel
theorem dX4_raise_7 : decode cX4_raise 7 = .ok (.aload_n 0, 1) := by decide +kernel
theorem dX4_raise_8 : decode cX4_raise 8 = .ok (.getfield 16, 3) := by decide +kernel
theorem dX4_raise_11 : decode cX4_raise 11 = .ok (.iload_n 1, 1) := by decide +kernel
theorem dX4_raise_12 : decode cX4_raise 12 = .ok (.dup2, 1) := by decide +kernel
theorem dX4_raise_13 : decode cX4_raise 13 = .ok (.laload, 1) := by decide +kernel
theorem dX4_raise_14 : decode cX4_raise 14 = .ok (.lload_n 2, 1) := by decide +kernel
theorem dX4_raise_15 : decode cX4_raise 15 = .ok (.ladd, 1) := by decide +kernel
theorem dX4_raise_16 : decode cX4_raise 16 = .ok (.lastore, 1) := by decide +kernel
theorem dX4_raise_17 : decode cX4_raise 17 = .ok (.return_, 1) := by decide +kernel
def fX4_raise (m : dM) (p0 : Nat) (p1 : Int32) (p2 : Int64) : Option dM := dg (dkg p0 5) ((fX11_isInRow m p1).bind (fun v2 => if v2 = 0 then some m else dg (dIx p1 (dL 165)) (dg (dIx p1 (dL 165)) (dlet (d2 m 165 (Int32.toNatClampNeg (p1)) ((m.2 165 (Int32.toNatClampNeg (p1))) + p2)) (fun m3 => some m3)))))
set_option maxHeartbeats 4000000 in
set_option maxRecDepth 100000 in
theorem kX4_raise (l : Launch) (g : dG) {m : dM} {p0 : Nat} {p1 : Int32} {p2 : Int64} {m0 : dM} (h : fX4_raise m p0 p1 p2 = some m0) : dMet l g yX4_raise wsX4_raise (dRm 1 20) [.ref (dad g p0), .int p1, .long p2] m (dQV g m0) := by
  refine dof (cc := cX4_raise) (maxL := 4) (ret := none) _ (plainFor_of_name (by decide)) rfl (Nat.le_of_ble_eq_true rfl) ?_
  intro p e s mth below meth c S hr hlk hE H ls hP hS hl
  have S : CallFix p mth c cX4_raise 4 s _ wsX4_raise RX4 := S
  have hl : lv_has ls 4 [(0, .ref (dad g p0)), (1, .int p1), (2, .long p2)] := hl
  obtain ⟨locs, hlocs⟩ : ∃ z : List Loc, z = [] := ⟨_, rfl⟩
  rw [← hlocs] at hS ⊢
  have in4 : ∀ w ∈ wsX40, w ∈ wsX4_raise := by decide +kernel
  unfold fX4_raise at h
  obtain ⟨k0, h⟩ := d_g h
  have k0 := d_k k0
  refine lv_iload_n S.1 S.2.1 dX4_raise_0 rfl (lv_at hl 1 rfl) ?_
  obtain ⟨v2, hc1, h⟩ := d_b h
  refine dri (va_runSN (As := [.int p1]) (rest := []) S (kX11_isInRow l g hc1) ⟨va_cnB 1 S.2.2.2.2 gX4_raise_X11_isInRow_n85 rfl rfl rfl (dnq_RX4_85 hE) (S.2.2.2.2 (.initialized RX11) (List.mem_of_getElem? (i := 3) rfl)) ynX11_isInRow ⟨Nat.le_of_ble_eq_true rfl, Nat.le_of_ble_eq_true rfl⟩, S.2.2.2.2 (.static yX11_isInRow) (List.mem_of_getElem? (i := 2) rfl), trivial⟩ (dpS hE hP hS) rfl rfl hl.1 rfl (lv_room (Nat.le_of_ble_eq_true rfl)) dX4_raise_1 ⟨Nat.le_of_ble_eq_true rfl, Nat.le_of_ble_eq_true rfl⟩) hS (fun H locs hP hS => ?_)
  refine lv_if_eq (tgt := 17) S.1 S.2.1 dX4_raise_4 (by decide) (fun cq => ?_) (fun cq => ?_)
  · have h := d_t cq h
    obtain rfl := Option.some.inj h
    exact dtv S hr hlk hE hP hS dX4_raise_17
  · have h := d_f cq h
    refine lv_aload_n S.1 S.2.1 dX4_raise_7 rfl (lv_at hl 0 rfl) ?_
    refine dgf4_1 S in4 hE hP k0 (S.2.2.2.2 (.fieldLink RX4 16 "DrillField$Pairing" "dotPrices" "[J") (List.mem_of_getElem? (i := 1) rfl)) dX4_raise_8 ?_
    refine lv_iload_n S.1 S.2.1 dX4_raise_11 rfl (lv_at hl 1 rfl) ?_
    refine lv_dup2_11 S.1 S.2.1 dX4_raise_12 rfl rfl ?_
    obtain ⟨hi, h⟩ := d_g h
    refine d_lald S hE hP dk_165 hi dX4_raise_13 ?_
    refine lv_lload_n S.1 S.2.1 dX4_raise_14 rfl (lv_at hl 2 rfl) ?_
    refine lv_ladd S.1 S.2.1 dX4_raise_15 ?_
    obtain ⟨hi, h⟩ := d_g h
    refine d_last S hE hP hS dk_165 hi dX4_raise_16 (fun H locs hP hS => ?_)
    obtain ⟨m3, em3⟩ : ∃ z : dM, z = d2 m 165 (Int32.toNatClampNeg (p1)) ((m.2 165 (Int32.toNatClampNeg (p1))) + p2) := ⟨_, rfl⟩
    have h := d_let em3 h
    rw [← em3] at hP
    obtain rfl := Option.some.inj h
    exact dtv S hr hlk hE hP hS dX4_raise_17
set_option maxRecDepth 20000 in
theorem ggX4_movePrices_X4_raise : GoodIn wsX4_movePrices wsX4_raise := goodIn_r _ [10, 11, 12, 13, 14, 15, 16, 17, 18, 19, 20, 21, 22] (by decide +kernel) (by decide +kernel)
set_option maxRecDepth 20000 in
theorem gX4_movePrices_X4_raise : GoodIn wsX4_movePrices (wsV RX4 96 RX4 yX4_raise wsX4_raise) := goodIn_app (goodIn_of _ (by decide +kernel)) ggX4_movePrices_X4_raise
theorem dX4_movePrices_0 : decode cX4_movePrices 0 = .ok (.aload_n 0, 1) := by decide +kernel
theorem dX4_movePrices_1 : decode cX4_movePrices 1 = .ok (.iload_n 1, 1) := by decide +kernel
theorem dX4_movePrices_2 : decode cX4_movePrices 2 = .ok (.lload_n 2, 1) := by decide +kernel
theorem dX4_movePrices_3 : decode cX4_movePrices 3 = .ok (.invokevirtual 96, 3) := by decide +kernel
theorem dX4_movePrices_6 : decode cX4_movePrices 6 = .ok (.iconst 0, 1) := by decide +kernel
theorem dX4_movePrices_7 : decode cX4_movePrices 7 = .ok (.istore 4, 2) := by decide +kernel
theorem dX4_movePrices_9 : decode cX4_movePrices 9 = .ok (.iload 4, 2) := by decide +kernel
theorem dX4_movePrices_11 : decode cX4_movePrices 11 = .ok (.aload_n 0, 1) := by decide +kernel
theorem dX4_movePrices_12 : decode cX4_movePrices 12 = .ok (.getfield 43, 3) := by decide +kernel
theorem dX4_movePrices_15 : decode cX4_movePrices 15 = .ok (.if_icmp .ge 56, 3) := by decide +kernel
theorem dX4_movePrices_18 : decode cX4_movePrices 18 = .ok (.aload_n 0, 1) := by decide +kernel
theorem dX4_movePrices_19 : decode cX4_movePrices 19 = .ok (.getfield 33, 3) := by decide +kernel
theorem dX4_movePrices_22 : decode cX4_movePrices 22 = .ok (.iload 4, 2) := by decide +kernel
theorem dX4_movePrices_24 : decode cX4_movePrices 24 = .ok (.baload, 1) := by decide +kernel
theorem dX4_movePrices_25 : decode cX4_movePrices 25 = .ok (.ifCond .eq 29, 3) := by decide +kernel
theorem dX4_movePrices_28 : decode cX4_movePrices 28 = .ok (.aload_n 0, 1) := by decide +kernel
theorem dX4_movePrices_29 : decode cX4_movePrices 29 = .ok (.aload_n 0, 1) := by decide +kernel
theorem dX4_movePrices_30 : decode cX4_movePrices 30 = .ok (.getfield 30, 3) := by decide +kernel
theorem dX4_movePrices_33 : decode cX4_movePrices 33 = .ok (.iload 4, 2) := by decide +kernel
theorem dX4_movePrices_35 : decode cX4_movePrices 35 = .ok (.iaload, 1) := by decide +kernel
theorem dX4_movePrices_36 : decode cX4_movePrices 36 = .ok (.lload_n 2, 1) := by decide +kernel
theorem dX4_movePrices_37 : decode cX4_movePrices 37 = .ok (.invokevirtual 96, 3) := by decide +kernel
theorem dX4_movePrices_40 : decode cX4_movePrices 40 = .ok (.aload_n 0, 1) := by decide +kernel
theorem dX4_movePrices_41 : decode cX4_movePrices 41 = .ok (.getfield 20, 3) := by decide +kernel
theorem dX4_movePrices_44 : decode cX4_movePrices 44 = .ok (.iload 4, 2) := by decide +kernel
theorem dX4_movePrices_46 : decode cX4_movePrices 46 = .ok (.dup2, 1) := by decide +kernel
theorem dX4_movePrices_47 : decode cX4_movePrices 47 = .ok (.laload, 1) := by decide +kernel
theorem dX4_movePrices_48 : decode cX4_movePrices 48 = .ok (.lload_n 2, 1) := by decide +kernel
theorem dX4_movePrices_49 : decode cX4_movePrices 49 = .ok (.lsub, 1) := by decide +kernel
theorem dX4_movePrices_50 : decode cX4_movePrices 50 = .ok (.lastore, 1) := by decide +kernel
theorem dX4_movePrices_51 : decode cX4_movePrices 51 = .ok (.goto 14, 3) := by decide +kernel
theorem dX4_movePrices_54 : decode cX4_movePrices 54 = .ok (.aload_n 0, 1) := by decide +kernel
theorem dX4_movePrices_55 : decode cX4_movePrices 55 = .ok (.getfield 23, 3) := by decide +kernel
theorem dX4_movePrices_58 : decode cX4_movePrices 58 = .ok (.iload 4, 2) := by decide +kernel
theorem dX4_movePrices_60 : decode cX4_movePrices 60 = .ok (.dup2, 1) := by decide +kernel
theorem dX4_movePrices_61 : decode cX4_movePrices 61 = .ok (.laload, 1) := by decide +kernel
theorem dX4_movePrices_62 : decode cX4_movePrices 62 = .ok (.lload_n 2, 1) := by decide +kernel
theorem dX4_movePrices_63 : decode cX4_movePrices 63 = .ok (.lsub, 1) := by decide +kernel
theorem dX4_movePrices_64 : decode cX4_movePrices 64 = .ok (.lastore, 1) := by decide +kernel
theorem dX4_movePrices_65 : decode cX4_movePrices 65 = .ok (.iinc 4 1, 3) := by decide +kernel
theorem dX4_movePrices_68 : decode cX4_movePrices 68 = .ok (.goto (-59), 3) := by decide +kernel
theorem dX4_movePrices_71 : decode cX4_movePrices 71 = .ok (.return_, 1) := by decide +kernel
def fX4_movePrices_l9 (p0 : Nat) (p2 : Int64) (v4 : Int32) (m5 : dM) : Option ((Int32 × dM) ⊕ dM) := if (m5.1 p0 7) ≤ v4 then some (.inr m5) else dg (dIx v4 (dL 170)) (if (m5.1 170 (Int32.toNatClampNeg (v4))) = 0 then dg (dIx v4 (dL 167)) (dg (dIx v4 (dL 167)) (dlet (d2 m5 167 (Int32.toNatClampNeg (v4)) ((m5.2 167 (Int32.toNatClampNeg (v4))) - p2)) (fun m12 => dlet (v4 + 1 : Int32) (fun v13 => some (.inl (v13, m12)))))) else dg (dIx v4 (dL 169)) ((fX4_raise m5 p0 (m5.1 169 (Int32.toNatClampNeg (v4))) p2).bind (fun m15 => dg (dIx v4 (dL 166)) (dg (dIx v4 (dL 166)) (dlet (d2 m15 166 (Int32.toNatClampNeg (v4)) ((m15.2 166 (Int32.toNatClampNeg (v4))) - p2)) (fun m16 => dlet (v4 + 1 : Int32) (fun v17 => some (.inl (v17, m16)))))))))
def fX4_movePrices (m : dM) (p0 : Nat) (p1 : Int32) (p2 : Int64) : Option dM := dg (dkg p0 5) ((fX4_raise m p0 p1 p2).bind (fun m2 => (dlp (fun q => dP2 q (fun v4 m5 => fX4_movePrices_l9 p0 p2 v4 m5)) dFl (0, m2)).bind (fun q => dP1 q (fun m18 => some m18))))
set_option maxHeartbeats 4000000 in
set_option maxRecDepth 100000 in
theorem kX4_movePrices (l : Launch) (g : dG) {m : dM} {p0 : Nat} {p1 : Int32} {p2 : Int64} {m0 : dM} (h : fX4_movePrices m p0 p1 p2 = some m0) : dMet l g yX4_movePrices wsX4_movePrices (dRm 2 43) [.ref (dad g p0), .int p1, .long p2] m (dQV g m0) := by
  refine dof (cc := cX4_movePrices) (maxL := 5) (ret := none) _ (plainFor_of_name (by decide)) rfl (Nat.le_of_ble_eq_true rfl) ?_
  intro p e s mth below meth c S hr hlk hE H ls hP hS hl
  have S : CallFix p mth c cX4_movePrices 5 s _ wsX4_movePrices RX4 := S
  have hl : lv_has ls 5 [(0, .ref (dad g p0)), (1, .int p1), (2, .long p2)] := hl
  obtain ⟨locs, hlocs⟩ : ∃ z : List Loc, z = [] := ⟨_, rfl⟩
  rw [← hlocs] at hS ⊢
  have in4 : ∀ w ∈ wsX40, w ∈ wsX4_movePrices := by decide +kernel
  unfold fX4_movePrices at h
  obtain ⟨k0, h⟩ := d_g h
  have k0 := d_k k0
  refine lv_aload_n S.1 S.2.1 dX4_movePrices_0 rfl (lv_at hl 0 rfl) ?_
  refine lv_iload_n S.1 S.2.1 dX4_movePrices_1 rfl (lv_at hl 1 rfl) ?_
  refine lv_lload_n S.1 S.2.1 dX4_movePrices_2 rfl (lv_at hl 2 rfl) ?_
  obtain ⟨m2, hc1, h⟩ := d_b h
  refine drv (va_runV (As := [.int p1, .long p2]) (rest := []) S (kX4_raise l g hc1) (cwV 2 S.2.2.2.2 gX4_movePrices_X4_raise rfl rfl rfl ynX4_raise ⟨Nat.le_of_ble_eq_true rfl, Nat.le_of_ble_eq_true rfl⟩) (dpV hE hP hS (ci := 4) rfl (dat5 k0)) rfl rfl hl.1 rfl (lv_room (Nat.le_of_ble_eq_true rfl)) dX4_movePrices_3 ⟨Nat.le_of_ble_eq_true rfl, Nat.le_of_ble_eq_true rfl⟩) hS (fun H locs hP hS => ?_)
  refine lv_iconst (v := 0) S.1 S.2.1 dX4_movePrices_6 (by decide) ?_
  refine lv_istore (lv' := [(4, .int 0), (0, .ref (dad g p0)), (1, .int p1), (2, .long p2)]) S.1 S.2.1 dX4_movePrices_7 hl (by decide) rfl (fun ls hl => ?_)
  obtain ⟨qL3, hqL3, h⟩ := d_b h
  refine d_lp (Hd := fun q => match q with | (v4, m5) => ∀ (H : Heap) (locs : List Loc) (ls : Array Slot), va_P g.1 vwCl (dws g m5) H → va_S (dA g) s.heap H locs → lv_has ls 5 [(4, .int v4), (0, .ref (dad g p0)), (2, .long p2)] → W p l e (headSpec wsX4_movePrices (dRm 2 43)).room s mth (([.ref (dad g p0), .int p1, .long p2] : List Value).toArray) below meth c H locs 0 0 (MQ below (dQV g m0) (([.ref (dad g p0), .int p1, .long p2] : List Value).toArray) s 0 0 (dA g)) (F0 mth 9 ls [])) (K := fun q => (fun (m18 : _) => ∀ (H : Heap) (locs : List Loc) (ls : Array Slot), va_P g.1 vwCl (dws g m18) H → va_S (dA g) s.heap H locs → lv_has ls 5 [] → W p l e (headSpec wsX4_movePrices (dRm 2 43)).room s mth (([.ref (dad g p0), .int p1, .long p2] : List Value).toArray) below meth c H locs 0 0 (MQ below (dQV g m0) (([.ref (dad g p0), .int p1, .long p2] : List Value).toArray) s 0 0 (dA g)) (F0 mth 71 ls [])) q) ?_ dFl _ qL3 hqL3 ?_ H locs ls hP hS (lv_sub hl [0, 1, 3] rfl)
  · intro q o h hCL3 hEL3
    obtain ⟨v4, m5⟩ := q
    have h : fX4_movePrices_l9 p0 p2 v4 m5 = some o := h
    intro H locs ls hP hS hl
    have hP : va_P g.1 vwCl (dws g m5) H := hP
    have hl : lv_has ls 5 [(4, .int v4), (0, .ref (dad g p0)), (2, .long p2)] := hl
    unfold fX4_movePrices_l9 at h
    refine lv_iload S.1 S.2.1 dX4_movePrices_9 (lv_at hl 0 rfl) ?_
    refine lv_aload_n S.1 S.2.1 dX4_movePrices_11 rfl (lv_at hl 1 rfl) ?_
    refine dgf4_7 S in4 hE hP k0 (S.2.2.2.2 (.fieldLink RX4 43 "DrillField$Pairing" "number" "I") (List.mem_of_getElem? (i := 1) rfl)) dX4_movePrices_12 ?_
    refine lv_icmp_ge (tgt := 71) S.1 S.2.1 dX4_movePrices_15 (by decide) (fun cq => ?_) (fun cq => ?_)
    · have h := d_t cq h
      obtain rfl := Option.some.inj h
      exact hEL3 _ rfl H locs ls hP hS (lv_sub hl [] rfl)
    · have h := d_f cq h
      refine lv_aload_n S.1 S.2.1 dX4_movePrices_18 rfl (lv_at hl 1 rfl) ?_
      refine dgf4_6 S in4 hE hP k0 (S.2.2.2.2 (.fieldLink RX4 33 "DrillField$Pairing" "isReached" "[Z") (List.mem_of_getElem? (i := 2) rfl)) dX4_movePrices_19 ?_
      refine lv_iload S.1 S.2.1 dX4_movePrices_22 (lv_at hl 0 rfl) ?_
      obtain ⟨hi, h⟩ := d_g h
      refine d_zald S hE hP dk_170 hi dX4_movePrices_24 ?_
      refine lv_if_eq (tgt := 54) S.1 S.2.1 dX4_movePrices_25 (by decide) (fun cq => ?_) (fun cq => ?_)
      · have h := d_t cq h
        refine lv_aload_n S.1 S.2.1 dX4_movePrices_54 rfl (lv_at hl 1 rfl) ?_
        refine dgf4_3 S in4 hE hP k0 (S.2.2.2.2 (.fieldLink RX4 23 "DrillField$Pairing" "gaps" "[J") (List.mem_of_getElem? (i := 5) rfl)) dX4_movePrices_55 ?_
        refine lv_iload S.1 S.2.1 dX4_movePrices_58 (lv_at hl 0 rfl) ?_
        refine lv_dup2_11 S.1 S.2.1 dX4_movePrices_60 rfl rfl ?_
        obtain ⟨hi, h⟩ := d_g h
        refine d_lald S hE hP dk_167 hi dX4_movePrices_61 ?_
        refine lv_lload_n S.1 S.2.1 dX4_movePrices_62 rfl (lv_at hl 2 rfl) ?_
        refine lv_lsub S.1 S.2.1 dX4_movePrices_63 ?_
        obtain ⟨hi, h⟩ := d_g h
        refine d_last S hE hP hS dk_167 hi dX4_movePrices_64 (fun H locs hP hS => ?_)
        obtain ⟨m12, em12⟩ : ∃ z : dM, z = d2 m5 167 (Int32.toNatClampNeg (v4)) ((m5.2 167 (Int32.toNatClampNeg (v4))) - p2) := ⟨_, rfl⟩
        have h := d_let em12 h
        rw [← em12] at hP
        obtain ⟨v13, ev13⟩ : ∃ z : Int32, z = v4 + 1 := ⟨_, rfl⟩
        have h := d_let ev13 h
        refine lv_iinc (v := v13) (lv' := [(4, .int v13), (0, .ref (dad g p0)), (2, .long p2)]) S.1 S.2.1 dX4_movePrices_65 hl (k := 0) rfl (by rw [ev13]; rfl) (by decide) rfl (fun ls hl => ?_)
        refine lv_goto (tgt := 9) S.1 S.2.1 dX4_movePrices_68 (by decide) ?_
        obtain rfl := Option.some.inj h
        exact hCL3 _ rfl H locs ls hP hS (lv_sub hl [0, 1, 2] rfl)
      · have h := d_f cq h
        refine lv_aload_n S.1 S.2.1 dX4_movePrices_28 rfl (lv_at hl 1 rfl) ?_
        refine lv_aload_n S.1 S.2.1 dX4_movePrices_29 rfl (lv_at hl 1 rfl) ?_
        refine dgf4_5 S in4 hE hP k0 (S.2.2.2.2 (.fieldLink RX4 30 "DrillField$Pairing" "holders" "[I") (List.mem_of_getElem? (i := 3) rfl)) dX4_movePrices_30 ?_
        refine lv_iload S.1 S.2.1 dX4_movePrices_33 (lv_at hl 0 rfl) ?_
        obtain ⟨hi, h⟩ := d_g h
        refine d_iald S hE hP dk_169 hi dX4_movePrices_35 ?_
        refine lv_lload_n S.1 S.2.1 dX4_movePrices_36 rfl (lv_at hl 2 rfl) ?_
        obtain ⟨m15, hc14, h⟩ := d_b h
        refine drv (va_runV (As := [.int (m5.1 169 (Int32.toNatClampNeg (v4))), .long p2]) (rest := []) S (kX4_raise l g hc14) (cwV 2 S.2.2.2.2 gX4_movePrices_X4_raise rfl rfl rfl ynX4_raise ⟨Nat.le_of_ble_eq_true rfl, Nat.le_of_ble_eq_true rfl⟩) (dpV hE hP hS (ci := 4) rfl (dat5 k0)) rfl rfl hl.1 rfl (lv_room (Nat.le_of_ble_eq_true rfl)) dX4_movePrices_37 ⟨Nat.le_of_ble_eq_true rfl, Nat.le_of_ble_eq_true rfl⟩) hS (fun H locs hP hS => ?_)
        refine lv_aload_n S.1 S.2.1 dX4_movePrices_40 rfl (lv_at hl 1 rfl) ?_
        refine dgf4_2 S in4 hE hP k0 (S.2.2.2.2 (.fieldLink RX4 20 "DrillField$Pairing" "placePrices" "[J") (List.mem_of_getElem? (i := 4) rfl)) dX4_movePrices_41 ?_
        refine lv_iload S.1 S.2.1 dX4_movePrices_44 (lv_at hl 0 rfl) ?_
        refine lv_dup2_11 S.1 S.2.1 dX4_movePrices_46 rfl rfl ?_
        obtain ⟨hi, h⟩ := d_g h
        refine d_lald S hE hP dk_166 hi dX4_movePrices_47 ?_
        refine lv_lload_n S.1 S.2.1 dX4_movePrices_48 rfl (lv_at hl 2 rfl) ?_
        refine lv_lsub S.1 S.2.1 dX4_movePrices_49 ?_
        obtain ⟨hi, h⟩ := d_g h
        refine d_last S hE hP hS dk_166 hi dX4_movePrices_50 (fun H locs hP hS => ?_)
        obtain ⟨m16, em16⟩ : ∃ z : dM, z = d2 m15 166 (Int32.toNatClampNeg (v4)) ((m15.2 166 (Int32.toNatClampNeg (v4))) - p2) := ⟨_, rfl⟩
        have h := d_let em16 h
        rw [← em16] at hP
        refine lv_goto (tgt := 65) S.1 S.2.1 dX4_movePrices_51 (by decide) ?_
        obtain ⟨v17, ev17⟩ : ∃ z : Int32, z = v4 + 1 := ⟨_, rfl⟩
        have h := d_let ev17 h
        refine lv_iinc (v := v17) (lv' := [(4, .int v17), (0, .ref (dad g p0)), (2, .long p2)]) S.1 S.2.1 dX4_movePrices_65 hl (k := 0) rfl (by rw [ev17]; rfl) (by decide) rfl (fun ls hl => ?_)
        refine lv_goto (tgt := 9) S.1 S.2.1 dX4_movePrices_68 (by decide) ?_
        obtain rfl := Option.some.inj h
        exact hCL3 _ rfl H locs ls hP hS (lv_sub hl [0, 1, 2] rfl)
  · obtain ⟨m18, rfl⟩ : ∃ z, z = qL3 := ⟨_, rfl⟩
    have h := d_p1 h
    intro H locs ls hP hS hl
    have hP : va_P g.1 vwCl (dws g m18) H := hP
    have hl : lv_has ls 5 [] := hl
    obtain rfl := Option.some.inj h
    exact dtv S hr hlk hE hP hS dX4_movePrices_71
set_option maxRecDepth 20000 in
theorem ggX4_sendOn_X11_isInRow : GoodIn wsX4_sendOn wsX11_isInRow := goodIn_r _ [6] (by decide +kernel) (by decide +kernel)
set_option maxRecDepth 20000 in
theorem gX4_sendOn_X11_isInRow_n85 : GoodIn wsX4_sendOn (wsX11_isInRow) := ggX4_sendOn_X11_isInRow
theorem dX4_sendOn_0 : decode cX4_sendOn 0 = .ok (.iload_n 2, 1) := by decide +kernel
theorem dX4_sendOn_1 : decode cX4_sendOn 1 = .ok (.istore_n 3, 1) := by decide +kernel
theorem dX4_sendOn_2 : decode cX4_sendOn 2 = .ok (.iconst 0, 1) := by decide +kernel
theorem dX4_sendOn_3 : decode cX4_sendOn 3 = .ok (.istore 4, 2) := by decide +kernel
theorem dX4_sendOn_5 : decode cX4_sendOn 5 = .ok (.iload 4, 2) := by decide +kernel
theorem dX4_sendOn_7 : decode cX4_sendOn 7 = .ok (.aload_n 0, 1) := by decide +kernel
theorem dX4_sendOn_8 : decode cX4_sendOn 8 = .ok (.getfield 43, 3) := by decide +kernel
theorem dX4_sendOn_11 : decode cX4_sendOn 11 = .ok (.if_icmp .ge 52, 3) := by decide +kernel
theorem dX4_sendOn_14 : decode cX4_sendOn 14 = .ok (.iload_n 3, 1) := by decide +kernel
theorem dX4_sendOn_15 : decode cX4_sendOn 15 = .ok (.invokestatic 85, 3) := by decide +kernel
theorem dX4_sendOn_18 : decode cX4_sendOn 18 = .ok (.ifCond .eq 45, 3) := by decide +kernel
theorem dX4_sendOn_21 : decode cX4_sendOn 21 = .ok (.aload_n 0, 1) := by decide +kernel
theorem dX4_sendOn_22 : decode cX4_sendOn 22 = .ok (.getfield 26, 3) := by decide +kernel
theorem dX4_sendOn_25 : decode cX4_sendOn 25 = .ok (.iload_n 3, 1) := by decide +kernel
theorem dX4_sendOn_26 : decode cX4_sendOn 26 = .ok (.iaload, 1) := by decide +kernel
theorem dX4_sendOn_27 : decode cX4_sendOn 27 = .ok (.istore 5, 2) := by decide +kernel
theorem dX4_sendOn_29 : decode cX4_sendOn 29 = .ok (.aload_n 0, 1) := by decide +kernel
theorem dX4_sendOn_30 : decode cX4_sendOn 30 = .ok (.getfield 30, 3) := by decide +kernel
theorem dX4_sendOn_33 : decode cX4_sendOn 33 = .ok (.iload_n 3, 1) := by decide +kernel
theorem dX4_sendOn_34 : decode cX4_sendOn 34 = .ok (.iload 5, 2) := by decide +kernel
theorem dX4_sendOn_36 : decode cX4_sendOn 36 = .ok (.invokestatic 85, 3) := by decide +kernel
theorem dX4_sendOn_39 : decode cX4_sendOn 39 = .ok (.ifCond .eq 13, 3) := by decide +kernel
theorem dX4_sendOn_42 : decode cX4_sendOn 42 = .ok (.aload_n 0, 1) := by decide +kernel
theorem dX4_sendOn_43 : decode cX4_sendOn 43 = .ok (.getfield 30, 3) := by decide +kernel
theorem dX4_sendOn_46 : decode cX4_sendOn 46 = .ok (.iload 5, 2) := by decide +kernel
theorem dX4_sendOn_48 : decode cX4_sendOn 48 = .ok (.iaload, 1) := by decide +kernel
theorem dX4_sendOn_49 : decode cX4_sendOn 49 = .ok (.goto 4, 3) := by decide +kernel
theorem dX4_sendOn_52 : decode cX4_sendOn 52 = .ok (.iload_n 1, 1) := by decide +kernel
theorem dX4_sendOn_53 : decode cX4_sendOn 53 = .ok (.iastore, 1) := by decide +kernel
theorem dX4_sendOn_54 : decode cX4_sendOn 54 = .ok (.iload 5, 2) := by decide +kernel
theorem dX4_sendOn_56 : decode cX4_sendOn 56 = .ok (.istore_n 3, 1) := by decide +kernel
theorem dX4_sendOn_57 : decode cX4_sendOn 57 = .ok (.iinc 4 1, 3) := by decide +kernel
theorem dX4_sendOn_60 : decode cX4_sendOn 60 = .ok (.goto (-55), 3) := by decide +kernel
theorem dX4_sendOn_63 : decode cX4_sendOn 63 = .ok (.return_, 1) := by decide +kernel
def fX4_sendOn_l5 (p0 : Nat) (p1 : Int32) (v2 : Int32) (v3 : Int32) (m4 : dM) : Option ((Int32 × Int32 × dM) ⊕ dM) := if (m4.1 p0 7) ≤ v2 then some (.inr m4) else (fX11_isInRow m4 v3).bind (fun v15 => if v15 = 0 then some (.inr m4) else dg (dIx v3 (dL 168)) (dlet (m4.1 168 (Int32.toNatClampNeg (v3)) : Int32) (fun v16 => (fX11_isInRow m4 v16).bind (fun v18 => if v18 = 0 then dg (dIx v3 (dL 169)) (dlet (d1 m4 169 (Int32.toNatClampNeg (v3)) p1) (fun m19 => dlet (v2 + 1 : Int32) (fun v20 => some (.inl (v20, v16, m19))))) else dg (dIx v16 (dL 169)) (dg (dIx v3 (dL 169)) (dlet (d1 m4 169 (Int32.toNatClampNeg (v3)) (m4.1 169 (Int32.toNatClampNeg (v16)))) (fun m21 => dlet (v2 + 1 : Int32) (fun v22 => some (.inl (v22, v16, m21))))))))))
def fX4_sendOn (m : dM) (p0 : Nat) (p1 : Int32) (p2 : Int32) : Option dM := dg (dkg p0 5) ((dlp (fun q => dP3 q (fun v2 v3 m4 => fX4_sendOn_l5 p0 p1 v2 v3 m4)) dFl (0, p2, m)).bind (fun q => dP1 q (fun m23 => some m23)))
set_option maxHeartbeats 4000000 in
set_option maxRecDepth 100000 in
theorem kX4_sendOn (l : Launch) (g : dG) {m : dM} {p0 : Nat} {p1 : Int32} {p2 : Int32} {m0 : dM} (h : fX4_sendOn m p0 p1 p2 = some m0) : dMet l g yX4_sendOn wsX4_sendOn (dRm 1 20) [.ref (dad g p0), .int p1, .int p2] m (dQV g m0) := by
  refine dof (cc := cX4_sendOn) (maxL := 6) (ret := none) _ (plainFor_of_name (by decide)) rfl (Nat.le_of_ble_eq_true rfl) ?_
  intro p e s mth below meth c S hr hlk hE H ls hP hS hl
  have S : CallFix p mth c cX4_sendOn 6 s _ wsX4_sendOn RX4 := S
  have hl : lv_has ls 6 [(0, .ref (dad g p0)), (1, .int p1), (2, .int p2)] := hl
  obtain ⟨locs, hlocs⟩ : ∃ z : List Loc, z = [] := ⟨_, rfl⟩
  rw [← hlocs] at hS ⊢
  have in4 : ∀ w ∈ wsX40, w ∈ wsX4_sendOn := by decide +kernel
  unfold fX4_sendOn at h
  obtain ⟨k0, h⟩ := d_g h
  have k0 := d_k k0
  refine lv_iload_n S.1 S.2.1 dX4_sendOn_0 rfl (lv_at hl 2 rfl) ?_
  refine lv_istore_n (lv' := [(3, .int p2), (0, .ref (dad g p0)), (1, .int p1), (2, .int p2)]) S.1 S.2.1 dX4_sendOn_1 rfl hl (by decide) rfl (fun ls hl => ?_)
  refine lv_iconst (v := 0) S.1 S.2.1 dX4_sendOn_2 (by decide) ?_
  refine lv_istore (lv' := [(4, .int 0), (3, .int p2), (0, .ref (dad g p0)), (1, .int p1), (2, .int p2)]) S.1 S.2.1 dX4_sendOn_3 hl (by decide) rfl (fun ls hl => ?_)
  obtain ⟨qL1, hqL1, h⟩ := d_b h
  refine d_lp (Hd := fun q => match q with | (v2, v3, m4) => ∀ (H : Heap) (locs : List Loc) (ls : Array Slot), va_P g.1 vwCl (dws g m4) H → va_S (dA g) s.heap H locs → lv_has ls 6 [(4, .int v2), (3, .int v3), (0, .ref (dad g p0)), (1, .int p1)] → W p l e (headSpec wsX4_sendOn (dRm 1 20)).room s mth (([.ref (dad g p0), .int p1, .int p2] : List Value).toArray) below meth c H locs 0 0 (MQ below (dQV g m0) (([.ref (dad g p0), .int p1, .int p2] : List Value).toArray) s 0 0 (dA g)) (F0 mth 5 ls [])) (K := fun q => (fun (m23 : _) => ∀ (H : Heap) (locs : List Loc) (ls : Array Slot), va_P g.1 vwCl (dws g m23) H → va_S (dA g) s.heap H locs → lv_has ls 6 [] → W p l e (headSpec wsX4_sendOn (dRm 1 20)).room s mth (([.ref (dad g p0), .int p1, .int p2] : List Value).toArray) below meth c H locs 0 0 (MQ below (dQV g m0) (([.ref (dad g p0), .int p1, .int p2] : List Value).toArray) s 0 0 (dA g)) (F0 mth 63 ls [])) q) ?_ dFl _ qL1 hqL1 ?_ H locs ls hP hS (lv_sub hl [0, 1, 2, 3] rfl)
  · intro q o h hCL1 hEL1
    obtain ⟨v2, v3, m4⟩ := q
    have h : fX4_sendOn_l5 p0 p1 v2 v3 m4 = some o := h
    intro H locs ls hP hS hl
    have hP : va_P g.1 vwCl (dws g m4) H := hP
    have hl : lv_has ls 6 [(4, .int v2), (3, .int v3), (0, .ref (dad g p0)), (1, .int p1)] := hl
    unfold fX4_sendOn_l5 at h
    refine lv_iload S.1 S.2.1 dX4_sendOn_5 (lv_at hl 0 rfl) ?_
    refine lv_aload_n S.1 S.2.1 dX4_sendOn_7 rfl (lv_at hl 2 rfl) ?_
    refine dgf4_7 S in4 hE hP k0 (S.2.2.2.2 (.fieldLink RX4 43 "DrillField$Pairing" "number" "I") (List.mem_of_getElem? (i := 1) rfl)) dX4_sendOn_8 ?_
    refine lv_icmp_ge (tgt := 63) S.1 S.2.1 dX4_sendOn_11 (by decide) (fun cq => ?_) (fun cq => ?_)
    · have h := d_t cq h
      obtain rfl := Option.some.inj h
      exact hEL1 _ rfl H locs ls hP hS (lv_sub hl [] rfl)
    · have h := d_f cq h
      refine lv_iload_n S.1 S.2.1 dX4_sendOn_14 rfl (lv_at hl 1 rfl) ?_
      obtain ⟨v15, hc14, h⟩ := d_b h
      refine dri (va_runSN (As := [.int v3]) (rest := []) S (kX11_isInRow l g hc14) ⟨va_cnB 1 S.2.2.2.2 gX4_sendOn_X11_isInRow_n85 rfl rfl rfl (dnq_RX4_85 hE) (S.2.2.2.2 (.initialized RX11) (List.mem_of_getElem? (i := 5) rfl)) ynX11_isInRow ⟨Nat.le_of_ble_eq_true rfl, Nat.le_of_ble_eq_true rfl⟩, S.2.2.2.2 (.static yX11_isInRow) (List.mem_of_getElem? (i := 4) rfl), trivial⟩ (dpS hE hP hS) rfl rfl hl.1 rfl (lv_room (Nat.le_of_ble_eq_true rfl)) dX4_sendOn_15 ⟨Nat.le_of_ble_eq_true rfl, Nat.le_of_ble_eq_true rfl⟩) hS (fun H locs hP hS => ?_)
      refine lv_if_eq (tgt := 63) S.1 S.2.1 dX4_sendOn_18 (by decide) (fun cq => ?_) (fun cq => ?_)
      · have h := d_t cq h
        obtain rfl := Option.some.inj h
        exact hEL1 _ rfl H locs ls hP hS (lv_sub hl [] rfl)
      · have h := d_f cq h
        refine lv_aload_n S.1 S.2.1 dX4_sendOn_21 rfl (lv_at hl 2 rfl) ?_
        refine dgf4_4 S in4 hE hP k0 (S.2.2.2.2 (.fieldLink RX4 26 "DrillField$Pairing" "ahead" "[I") (List.mem_of_getElem? (i := 2) rfl)) dX4_sendOn_22 ?_
        refine lv_iload_n S.1 S.2.1 dX4_sendOn_25 rfl (lv_at hl 1 rfl) ?_
        obtain ⟨hi, h⟩ := d_g h
        refine d_iald S hE hP dk_168 hi dX4_sendOn_26 ?_
        refine lv_topi (fun v16 ev16 => ?_)
        have h := d_let ev16 h
        refine lv_istore (lv' := [(5, .int v16), (4, .int v2), (3, .int v3), (0, .ref (dad g p0)), (1, .int p1)]) S.1 S.2.1 dX4_sendOn_27 hl (by decide) rfl (fun ls hl => ?_)
        refine lv_aload_n S.1 S.2.1 dX4_sendOn_29 rfl (lv_at hl 3 rfl) ?_
        refine dgf4_5 S in4 hE hP k0 (S.2.2.2.2 (.fieldLink RX4 30 "DrillField$Pairing" "holders" "[I") (List.mem_of_getElem? (i := 3) rfl)) dX4_sendOn_30 ?_
        refine lv_iload_n S.1 S.2.1 dX4_sendOn_33 rfl (lv_at hl 2 rfl) ?_
        refine lv_iload S.1 S.2.1 dX4_sendOn_34 (lv_at hl 0 rfl) ?_
        obtain ⟨v18, hc17, h⟩ := d_b h
        refine dri (va_runSN (As := [.int v16]) (rest := [.int v3, .ref (dad g 169)]) S (kX11_isInRow l g hc17) ⟨va_cnB 1 S.2.2.2.2 gX4_sendOn_X11_isInRow_n85 rfl rfl rfl (dnq_RX4_85 hE) (S.2.2.2.2 (.initialized RX11) (List.mem_of_getElem? (i := 5) rfl)) ynX11_isInRow ⟨Nat.le_of_ble_eq_true rfl, Nat.le_of_ble_eq_true rfl⟩, S.2.2.2.2 (.static yX11_isInRow) (List.mem_of_getElem? (i := 4) rfl), trivial⟩ (dpS hE hP hS) rfl rfl hl.1 rfl (lv_room (Nat.le_of_ble_eq_true rfl)) dX4_sendOn_36 ⟨Nat.le_of_ble_eq_true rfl, Nat.le_of_ble_eq_true rfl⟩) hS (fun H locs hP hS => ?_)
        refine lv_if_eq (tgt := 52) S.1 S.2.1 dX4_sendOn_39 (by decide) (fun cq => ?_) (fun cq => ?_)
        · have h := d_t cq h
          refine lv_iload_n S.1 S.2.1 dX4_sendOn_52 rfl (lv_at hl 4 rfl) ?_
          obtain ⟨hi, h⟩ := d_g h
          refine d_iast S hE hP hS dk_169 hi dX4_sendOn_53 (fun H locs hP hS => ?_)
          obtain ⟨m19, em19⟩ : ∃ z : dM, z = d1 m4 169 (Int32.toNatClampNeg (v3)) p1 := ⟨_, rfl⟩
          have h := d_let em19 h
          rw [← em19] at hP
          refine lv_iload S.1 S.2.1 dX4_sendOn_54 (lv_at hl 0 rfl) ?_
          refine lv_istore_n (lv' := [(3, .int v16), (5, .int v16), (4, .int v2), (0, .ref (dad g p0)), (1, .int p1)]) S.1 S.2.1 dX4_sendOn_56 rfl hl (by decide) rfl (fun ls hl => ?_)
          obtain ⟨v20, ev20⟩ : ∃ z : Int32, z = v2 + 1 := ⟨_, rfl⟩
          have h := d_let ev20 h
          refine lv_iinc (v := v20) (lv' := [(4, .int v20), (3, .int v16), (5, .int v16), (0, .ref (dad g p0)), (1, .int p1)]) S.1 S.2.1 dX4_sendOn_57 hl (k := 2) rfl (by rw [ev20]; rfl) (by decide) rfl (fun ls hl => ?_)
          refine lv_goto (tgt := 5) S.1 S.2.1 dX4_sendOn_60 (by decide) ?_
          obtain rfl := Option.some.inj h
          exact hCL1 _ rfl H locs ls hP hS (lv_sub hl [0, 1, 3, 4] rfl)
        · have h := d_f cq h
          refine lv_aload_n S.1 S.2.1 dX4_sendOn_42 rfl (lv_at hl 3 rfl) ?_
          refine dgf4_5 S in4 hE hP k0 (S.2.2.2.2 (.fieldLink RX4 30 "DrillField$Pairing" "holders" "[I") (List.mem_of_getElem? (i := 3) rfl)) dX4_sendOn_43 ?_
          refine lv_iload S.1 S.2.1 dX4_sendOn_46 (lv_at hl 0 rfl) ?_
          obtain ⟨hi, h⟩ := d_g h
          refine d_iald S hE hP dk_169 hi dX4_sendOn_48 ?_
          refine lv_goto (tgt := 53) S.1 S.2.1 dX4_sendOn_49 (by decide) ?_
          obtain ⟨hi, h⟩ := d_g h
          refine d_iast S hE hP hS dk_169 hi dX4_sendOn_53 (fun H locs hP hS => ?_)
          obtain ⟨m21, em21⟩ : ∃ z : dM, z = d1 m4 169 (Int32.toNatClampNeg (v3)) (m4.1 169 (Int32.toNatClampNeg (v16))) := ⟨_, rfl⟩
          have h := d_let em21 h
          rw [← em21] at hP
          refine lv_iload S.1 S.2.1 dX4_sendOn_54 (lv_at hl 0 rfl) ?_
          refine lv_istore_n (lv' := [(3, .int v16), (5, .int v16), (4, .int v2), (0, .ref (dad g p0)), (1, .int p1)]) S.1 S.2.1 dX4_sendOn_56 rfl hl (by decide) rfl (fun ls hl => ?_)
          obtain ⟨v22, ev22⟩ : ∃ z : Int32, z = v2 + 1 := ⟨_, rfl⟩
          have h := d_let ev22 h
          refine lv_iinc (v := v22) (lv' := [(4, .int v22), (3, .int v16), (5, .int v16), (0, .ref (dad g p0)), (1, .int p1)]) S.1 S.2.1 dX4_sendOn_57 hl (k := 2) rfl (by rw [ev22]; rfl) (by decide) rfl (fun ls hl => ?_)
          refine lv_goto (tgt := 5) S.1 S.2.1 dX4_sendOn_60 (by decide) ?_
          obtain rfl := Option.some.inj h
          exact hCL1 _ rfl H locs ls hP hS (lv_sub hl [0, 1, 3, 4] rfl)
  · obtain ⟨m23, rfl⟩ : ∃ z, z = qL1 := ⟨_, rfl⟩
    have h := d_p1 h
    intro H locs ls hP hS hl
    have hP : va_P g.1 vwCl (dws g m23) H := hP
    have hl : lv_has ls 6 [] := hl
    obtain rfl := Option.some.inj h
    exact dtv S hr hlk hE hP hS dX4_sendOn_63
set_option maxRecDepth 20000 in
theorem ggX4_bringIn_X4_narrowGaps : GoodIn wsX4_bringIn wsX4_narrowGaps := goodIn_r _ [11, 1, 12, 13, 14, 5, 2, 4, 15, 16, 17, 34, 35, 36, 37, 38, 39, 40, 41] (by decide +kernel) (by decide +kernel)
set_option maxRecDepth 20000 in
theorem gX4_bringIn_X4_narrowGaps : GoodIn wsX4_bringIn (wsV RX4 77 RX4 yX4_narrowGaps wsX4_narrowGaps) := goodIn_app (goodIn_of _ (by decide +kernel)) ggX4_bringIn_X4_narrowGaps
set_option maxRecDepth 20000 in
theorem ggX4_bringIn_X4_nearestPlace : GoodIn wsX4_bringIn wsX4_nearestPlace := goodIn_r _ [21, 3, 1, 5, 2, 34, 35, 36, 37, 38, 39, 40, 41] (by decide +kernel) (by decide +kernel)
set_option maxRecDepth 20000 in
theorem gX4_bringIn_X4_nearestPlace : GoodIn wsX4_bringIn (wsV RX4 81 RX4 yX4_nearestPlace wsX4_nearestPlace) := goodIn_app (goodIn_of _ (by decide +kernel)) ggX4_bringIn_X4_nearestPlace
set_option maxRecDepth 20000 in
theorem ggX4_bringIn_X11_isInRow : GoodIn wsX4_bringIn wsX11_isInRow := goodIn_r _ [17] (by decide +kernel) (by decide +kernel)
set_option maxRecDepth 20000 in
theorem gX4_bringIn_X11_isInRow_n85 : GoodIn wsX4_bringIn (wsX11_isInRow) := ggX4_bringIn_X11_isInRow
set_option maxRecDepth 20000 in
theorem ggX4_bringIn_X4_movePrices : GoodIn wsX4_bringIn wsX4_movePrices := goodIn_r _ [25, 1, 5, 6, 14, 2, 26, 27, 28, 10, 29, 13, 15, 16, 17, 34, 35, 36, 37, 38, 39, 40, 41] (by decide +kernel) (by decide +kernel)
set_option maxRecDepth 20000 in
theorem gX4_bringIn_X4_movePrices : GoodIn wsX4_bringIn (wsV RX4 89 RX4 yX4_movePrices wsX4_movePrices) := goodIn_app (goodIn_of _ (by decide +kernel)) ggX4_bringIn_X4_movePrices
set_option maxRecDepth 20000 in
theorem ggX4_bringIn_X4_sendOn : GoodIn wsX4_bringIn wsX4_sendOn := goodIn_r _ [33, 1, 4, 6, 15, 16, 17, 34, 35, 36, 37, 38, 39, 40, 41] (by decide +kernel) (by decide +kernel)
set_option maxRecDepth 20000 in
theorem gX4_bringIn_X4_sendOn : GoodIn wsX4_bringIn (wsV RX4 93 RX4 yX4_sendOn wsX4_sendOn) := goodIn_app (goodIn_of _ (by decide +kernel)) ggX4_bringIn_X4_sendOn
theorem dX4_bringIn_0 : decode cX4_bringIn 0 = .ok (.iconst 0, 1) := by decide +kernel
theorem dX4_bringIn_1 : decode cX4_bringIn 1 = .ok (.istore_n 2, 1) := by decide +kernel
theorem dX4_bringIn_2 : decode cX4_bringIn 2 = .ok (.iload_n 2, 1) := by decide +kernel
theorem dX4_bringIn_3 : decode cX4_bringIn 3 = .ok (.aload_n 0, 1) := by decide +kernel
theorem dX4_bringIn_4 : decode cX4_bringIn 4 = .ok (.getfield 43, 3) := by decide +kernel
theorem dX4_bringIn_7 : decode cX4_bringIn 7 = .ok (.if_icmp .ge 32, 3) := by decide +kernel
theorem dX4_bringIn_10 : decode cX4_bringIn 10 = .ok (.aload_n 0, 1) := by decide +kernel
theorem dX4_bringIn_11 : decode cX4_bringIn 11 = .ok (.getfield 23, 3) := by decide +kernel
theorem dX4_bringIn_14 : decode cX4_bringIn 14 = .ok (.iload_n 2, 1) := by decide +kernel
theorem dX4_bringIn_15 : decode cX4_bringIn 15 = .ok (.ldc2_w 75, 3) := by decide +kernel
theorem dX4_bringIn_18 : decode cX4_bringIn 18 = .ok (.lastore, 1) := by decide +kernel
theorem dX4_bringIn_19 : decode cX4_bringIn 19 = .ok (.aload_n 0, 1) := by decide +kernel
theorem dX4_bringIn_20 : decode cX4_bringIn 20 = .ok (.getfield 26, 3) := by decide +kernel
theorem dX4_bringIn_23 : decode cX4_bringIn 23 = .ok (.iload_n 2, 1) := by decide +kernel
theorem dX4_bringIn_24 : decode cX4_bringIn 24 = .ok (.iconst (-1), 1) := by decide +kernel
theorem dX4_bringIn_25 : decode cX4_bringIn 25 = .ok (.iastore, 1) := by decide +kernel
theorem dX4_bringIn_26 : decode cX4_bringIn 26 = .ok (.aload_n 0, 1) := by decide +kernel
theorem dX4_bringIn_27 : decode cX4_bringIn 27 = .ok (.getfield 33, 3) := by decide +kernel
theorem dX4_bringIn_30 : decode cX4_bringIn 30 = .ok (.iload_n 2, 1) := by decide +kernel
theorem dX4_bringIn_31 : decode cX4_bringIn 31 = .ok (.iconst 0, 1) := by decide +kernel
theorem dX4_bringIn_32 : decode cX4_bringIn 32 = .ok (.bastore, 1) := by decide +kernel
theorem dX4_bringIn_33 : decode cX4_bringIn 33 = .ok (.iinc 2 1, 3) := by decide +kernel
theorem dX4_bringIn_36 : decode cX4_bringIn 36 = .ok (.goto (-34), 3) := by decide +kernel
theorem dX4_bringIn_39 : decode cX4_bringIn 39 = .ok (.iload_n 1, 1) := by decide +kernel
theorem dX4_bringIn_40 : decode cX4_bringIn 40 = .ok (.istore_n 2, 1) := by decide +kernel
theorem dX4_bringIn_41 : decode cX4_bringIn 41 = .ok (.iconst (-1), 1) := by decide +kernel
theorem dX4_bringIn_42 : decode cX4_bringIn 42 = .ok (.istore_n 3, 1) := by decide +kernel
theorem dX4_bringIn_43 : decode cX4_bringIn 43 = .ok (.iconst 0, 1) := by decide +kernel
theorem dX4_bringIn_44 : decode cX4_bringIn 44 = .ok (.istore 4, 2) := by decide +kernel
theorem dX4_bringIn_46 : decode cX4_bringIn 46 = .ok (.iload 4, 2) := by decide +kernel
theorem dX4_bringIn_48 : decode cX4_bringIn 48 = .ok (.aload_n 0, 1) := by decide +kernel
theorem dX4_bringIn_49 : decode cX4_bringIn 49 = .ok (.getfield 43, 3) := by decide +kernel
theorem dX4_bringIn_52 : decode cX4_bringIn 52 = .ok (.if_icmp .ge 58, 3) := by decide +kernel
theorem dX4_bringIn_55 : decode cX4_bringIn 55 = .ok (.iload_n 2, 1) := by decide +kernel
theorem dX4_bringIn_56 : decode cX4_bringIn 56 = .ok (.iconst (-1), 1) := by decide +kernel
theorem dX4_bringIn_57 : decode cX4_bringIn 57 = .ok (.if_icmp .eq 53, 3) := by decide +kernel
theorem dX4_bringIn_60 : decode cX4_bringIn 60 = .ok (.aload_n 0, 1) := by decide +kernel
theorem dX4_bringIn_61 : decode cX4_bringIn 61 = .ok (.iload_n 2, 1) := by decide +kernel
theorem dX4_bringIn_62 : decode cX4_bringIn 62 = .ok (.iload_n 3, 1) := by decide +kernel
theorem dX4_bringIn_63 : decode cX4_bringIn 63 = .ok (.invokevirtual 77, 3) := by decide +kernel
theorem dX4_bringIn_66 : decode cX4_bringIn 66 = .ok (.aload_n 0, 1) := by decide +kernel
theorem dX4_bringIn_67 : decode cX4_bringIn 67 = .ok (.invokevirtual 81, 3) := by decide +kernel
theorem dX4_bringIn_70 : decode cX4_bringIn 70 = .ok (.istore_n 3, 1) := by decide +kernel
theorem dX4_bringIn_71 : decode cX4_bringIn 71 = .ok (.iload_n 3, 1) := by decide +kernel
theorem dX4_bringIn_72 : decode cX4_bringIn 72 = .ok (.invokestatic 85, 3) := by decide +kernel
theorem dX4_bringIn_75 : decode cX4_bringIn 75 = .ok (.ifCond .ne 4, 3) := by decide +kernel
theorem dX4_bringIn_78 : decode cX4_bringIn 78 = .ok (.return_, 1) := by decide +kernel
theorem dX4_bringIn_79 : decode cX4_bringIn 79 = .ok (.aload_n 0, 1) := by decide +kernel
theorem dX4_bringIn_80 : decode cX4_bringIn 80 = .ok (.iload_n 1, 1) := by decide +kernel
theorem dX4_bringIn_81 : decode cX4_bringIn 81 = .ok (.aload_n 0, 1) := by decide +kernel
theorem dX4_bringIn_82 : decode cX4_bringIn 82 = .ok (.getfield 23, 3) := by decide +kernel
theorem dX4_bringIn_85 : decode cX4_bringIn 85 = .ok (.iload_n 3, 1) := by decide +kernel
theorem dX4_bringIn_86 : decode cX4_bringIn 86 = .ok (.laload, 1) := by decide +kernel
theorem dX4_bringIn_87 : decode cX4_bringIn 87 = .ok (.invokevirtual 89, 3) := by decide +kernel
theorem dX4_bringIn_90 : decode cX4_bringIn 90 = .ok (.aload_n 0, 1) := by decide +kernel
theorem dX4_bringIn_91 : decode cX4_bringIn 91 = .ok (.getfield 33, 3) := by decide +kernel
theorem dX4_bringIn_94 : decode cX4_bringIn 94 = .ok (.iload_n 3, 1) := by decide +kernel
theorem dX4_bringIn_95 : decode cX4_bringIn 95 = .ok (.iconst 1, 1) := by decide +kernel
theorem dX4_bringIn_96 : decode cX4_bringIn 96 = .ok (.bastore, 1) := by decide +kernel
theorem dX4_bringIn_97 : decode cX4_bringIn 97 = .ok (.aload_n 0, 1) := by decide +kernel
theorem dX4_bringIn_98 : decode cX4_bringIn 98 = .ok (.getfield 30, 3) := by decide +kernel
theorem dX4_bringIn_101 : decode cX4_bringIn 101 = .ok (.iload_n 3, 1) := by decide +kernel
theorem dX4_bringIn_102 : decode cX4_bringIn 102 = .ok (.iaload, 1) := by decide +kernel
theorem dX4_bringIn_103 : decode cX4_bringIn 103 = .ok (.istore_n 2, 1) := by decide +kernel
theorem dX4_bringIn_104 : decode cX4_bringIn 104 = .ok (.iinc 4 1, 3) := by decide +kernel
theorem dX4_bringIn_107 : decode cX4_bringIn 107 = .ok (.goto (-61), 3) := by decide +kernel
theorem dX4_bringIn_110 : decode cX4_bringIn 110 = .ok (.aload_n 0, 1) := by decide +kernel
theorem dX4_bringIn_111 : decode cX4_bringIn 111 = .ok (.iload_n 1, 1) := by decide +kernel
theorem dX4_bringIn_112 : decode cX4_bringIn 112 = .ok (.iload_n 3, 1) := by decide +kernel
theorem dX4_bringIn_113 : decode cX4_bringIn 113 = .ok (.invokevirtual 93, 3) := by decide +kernel
theorem dX4_bringIn_116 : decode cX4_bringIn 116 = .ok (.return_, 1) := by decide +kernel
def fX4_bringIn_l2 (p0 : Nat) (v2 : Int32) (m3 : dM) : Option ((Int32 × dM) ⊕ dM) := if (m3.1 p0 7) ≤ v2 then some (.inr m3) else dg (dIx v2 (dL 167)) (dlet (d2 m3 167 (Int32.toNatClampNeg (v2)) 9223372036854775807) (fun m8 => dg (dIx v2 (dL 168)) (dlet (d1 m8 168 (Int32.toNatClampNeg (v2)) (-1)) (fun m9 => dg (dIx v2 (dL 170)) (dlet (d1 m9 170 (Int32.toNatClampNeg (v2)) 0) (fun m10 => dlet (v2 + 1 : Int32) (fun v11 => some (.inl (v11, m10)))))))))
def fX4_bringIn_l46 (p0 : Nat) (p1 : Int32) (v14 : Int32) (v15 : Int32) (v16 : Int32) (m17 : dM) : Option ((Int32 × Int32 × Int32 × dM) ⊕ (dM ⊕ (Int32 × dM))) := if (m17.1 p0 7) ≤ v14 then some (.inr (.inr (v15, m17))) else if v16 = (-1) then some (.inr (.inr (v15, m17))) else (fX4_narrowGaps m17 p0 v16 v15).bind (fun m30 => (fX4_nearestPlace m30 p0).bind (fun v32 => (fX11_isInRow m30 v32).bind (fun v34 => if v34 = 0 then some (.inr (.inl m30)) else dg (dIx v32 (dL 167)) ((fX4_movePrices m30 p0 p1 (m30.2 167 (Int32.toNatClampNeg (v32)))).bind (fun m36 => dg (dIx v32 (dL 170)) (dlet (d1 m36 170 (Int32.toNatClampNeg (v32)) 1) (fun m37 => dg (dIx v32 (dL 169)) (dlet (m37.1 169 (Int32.toNatClampNeg (v32)) : Int32) (fun v38 => dlet (v14 + 1 : Int32) (fun v39 => some (.inl (v39, v32, v38, m37))))))))))))
def fX4_bringIn (m : dM) (p0 : Nat) (p1 : Int32) : Option dM := dg (dkg p0 5) ((dlp (fun q => dP2 q (fun v2 m3 => fX4_bringIn_l2 p0 v2 m3)) dFl (0, m)).bind (fun q => dP1 q (fun m12 => (dlp (fun q => dP4 q (fun v14 v15 v16 m17 => fX4_bringIn_l46 p0 p1 v14 v15 v16 m17)) dFl (0, (-1), p1, m12)).bind (fun q => dS q (fun q => dP1 q (fun m40 => some m40)) (fun q => dP2 q (fun v41 m42 => (fX4_sendOn m42 p0 p1 v41).bind (fun m44 => some m44)))))))
set_option maxHeartbeats 4000000 in
set_option maxRecDepth 100000 in
theorem kX4_bringIn (l : Launch) (g : dG) {m : dM} {p0 : Nat} {p1 : Int32} {m0 : dM} (h : fX4_bringIn m p0 p1 = some m0) : dMet l g yX4_bringIn wsX4_bringIn (dRm 3 67) [.ref (dad g p0), .int p1] m (dQV g m0) := by
  refine dof (cc := cX4_bringIn) (maxL := 5) (ret := none) _ (plainFor_of_name (by decide)) rfl (Nat.le_of_ble_eq_true rfl) ?_
  intro p e s mth below meth c S hr hlk hE H ls hP hS hl
  have S : CallFix p mth c cX4_bringIn 5 s _ wsX4_bringIn RX4 := S
  have hl : lv_has ls 5 [(0, .ref (dad g p0)), (1, .int p1)] := hl
  obtain ⟨locs, hlocs⟩ : ∃ z : List Loc, z = [] := ⟨_, rfl⟩
  rw [← hlocs] at hS ⊢
  have in4 : ∀ w ∈ wsX40, w ∈ wsX4_bringIn := by decide +kernel
  unfold fX4_bringIn at h
  obtain ⟨k0, h⟩ := d_g h
  have k0 := d_k k0
  refine lv_iconst (v := 0) S.1 S.2.1 dX4_bringIn_0 (by decide) ?_
  refine lv_istore_n (lv' := [(2, .int 0), (0, .ref (dad g p0)), (1, .int p1)]) S.1 S.2.1 dX4_bringIn_1 rfl hl (by decide) rfl (fun ls hl => ?_)
  obtain ⟨qL1, hqL1, h⟩ := d_b h
  refine d_lp (Hd := fun q => match q with | (v2, m3) => ∀ (H : Heap) (locs : List Loc) (ls : Array Slot), va_P g.1 vwCl (dws g m3) H → va_S (dA g) s.heap H locs → lv_has ls 5 [(2, .int v2), (0, .ref (dad g p0)), (1, .int p1)] → W p l e (headSpec wsX4_bringIn (dRm 3 67)).room s mth (([.ref (dad g p0), .int p1] : List Value).toArray) below meth c H locs 0 0 (MQ below (dQV g m0) (([.ref (dad g p0), .int p1] : List Value).toArray) s 0 0 (dA g)) (F0 mth 2 ls [])) (K := fun q => (fun (m12 : _) => ∀ (H : Heap) (locs : List Loc) (ls : Array Slot), va_P g.1 vwCl (dws g m12) H → va_S (dA g) s.heap H locs → lv_has ls 5 [(0, .ref (dad g p0)), (1, .int p1)] → W p l e (headSpec wsX4_bringIn (dRm 3 67)).room s mth (([.ref (dad g p0), .int p1] : List Value).toArray) below meth c H locs 0 0 (MQ below (dQV g m0) (([.ref (dad g p0), .int p1] : List Value).toArray) s 0 0 (dA g)) (F0 mth 39 ls [])) q) ?_ dFl _ qL1 hqL1 ?_ H locs ls hP hS (lv_sub hl [0, 1, 2] rfl)
  · intro q o h hCL1 hEL1
    obtain ⟨v2, m3⟩ := q
    have h : fX4_bringIn_l2 p0 v2 m3 = some o := h
    intro H locs ls hP hS hl
    have hP : va_P g.1 vwCl (dws g m3) H := hP
    have hl : lv_has ls 5 [(2, .int v2), (0, .ref (dad g p0)), (1, .int p1)] := hl
    unfold fX4_bringIn_l2 at h
    refine lv_iload_n S.1 S.2.1 dX4_bringIn_2 rfl (lv_at hl 0 rfl) ?_
    refine lv_aload_n S.1 S.2.1 dX4_bringIn_3 rfl (lv_at hl 1 rfl) ?_
    refine dgf4_7 S in4 hE hP k0 (S.2.2.2.2 (.fieldLink RX4 43 "DrillField$Pairing" "number" "I") (List.mem_of_getElem? (i := 1) rfl)) dX4_bringIn_4 ?_
    refine lv_icmp_ge (tgt := 39) S.1 S.2.1 dX4_bringIn_7 (by decide) (fun cq => ?_) (fun cq => ?_)
    · have h := d_t cq h
      obtain rfl := Option.some.inj h
      exact hEL1 _ rfl H locs ls hP hS (lv_sub hl [1, 2] rfl)
    · have h := d_f cq h
      refine lv_aload_n S.1 S.2.1 dX4_bringIn_10 rfl (lv_at hl 1 rfl) ?_
      refine dgf4_3 S in4 hE hP k0 (S.2.2.2.2 (.fieldLink RX4 23 "DrillField$Pairing" "gaps" "[J") (List.mem_of_getElem? (i := 2) rfl)) dX4_bringIn_11 ?_
      refine lv_iload_n S.1 S.2.1 dX4_bringIn_14 rfl (lv_at hl 0 rfl) ?_
      refine lv_ldc2 (v := 9223372036854775807) S.1 S.2.1 S.2.2.2.1 (S.2.2.2.2 (.constantLong RX4 75 (9223372036854775807)) (List.mem_of_getElem? (i := 3) rfl)) dX4_bringIn_15 ?_
      obtain ⟨hi, h⟩ := d_g h
      refine d_last S hE hP hS dk_167 hi dX4_bringIn_18 (fun H locs hP hS => ?_)
      obtain ⟨m8, em8⟩ : ∃ z : dM, z = d2 m3 167 (Int32.toNatClampNeg (v2)) 9223372036854775807 := ⟨_, rfl⟩
      have h := d_let em8 h
      rw [← em8] at hP
      refine lv_aload_n S.1 S.2.1 dX4_bringIn_19 rfl (lv_at hl 1 rfl) ?_
      refine dgf4_4 S in4 hE hP k0 (S.2.2.2.2 (.fieldLink RX4 26 "DrillField$Pairing" "ahead" "[I") (List.mem_of_getElem? (i := 4) rfl)) dX4_bringIn_20 ?_
      refine lv_iload_n S.1 S.2.1 dX4_bringIn_23 rfl (lv_at hl 0 rfl) ?_
      refine lv_iconst (v := (-1)) S.1 S.2.1 dX4_bringIn_24 (by decide) ?_
      obtain ⟨hi, h⟩ := d_g h
      refine d_iast S hE hP hS dk_168 hi dX4_bringIn_25 (fun H locs hP hS => ?_)
      obtain ⟨m9, em9⟩ : ∃ z : dM, z = d1 m8 168 (Int32.toNatClampNeg (v2)) (-1) := ⟨_, rfl⟩
      have h := d_let em9 h
      rw [← em9] at hP
      refine lv_aload_n S.1 S.2.1 dX4_bringIn_26 rfl (lv_at hl 1 rfl) ?_
      refine dgf4_6 S in4 hE hP k0 (S.2.2.2.2 (.fieldLink RX4 33 "DrillField$Pairing" "isReached" "[Z") (List.mem_of_getElem? (i := 5) rfl)) dX4_bringIn_27 ?_
      refine lv_iload_n S.1 S.2.1 dX4_bringIn_30 rfl (lv_at hl 0 rfl) ?_
      refine lv_iconst (v := 0) S.1 S.2.1 dX4_bringIn_31 (by decide) ?_
      obtain ⟨hi, h⟩ := d_g h
      refine d_zast S hE hP hS dk_170 hi (by decide) dX4_bringIn_32 (fun H locs hP hS => ?_)
      obtain ⟨m10, em10⟩ : ∃ z : dM, z = d1 m9 170 (Int32.toNatClampNeg (v2)) 0 := ⟨_, rfl⟩
      have h := d_let em10 h
      rw [← em10] at hP
      obtain ⟨v11, ev11⟩ : ∃ z : Int32, z = v2 + 1 := ⟨_, rfl⟩
      have h := d_let ev11 h
      refine lv_iinc (v := v11) (lv' := [(2, .int v11), (0, .ref (dad g p0)), (1, .int p1)]) S.1 S.2.1 dX4_bringIn_33 hl (k := 0) rfl (by rw [ev11]; rfl) (by decide) rfl (fun ls hl => ?_)
      refine lv_goto (tgt := 2) S.1 S.2.1 dX4_bringIn_36 (by decide) ?_
      obtain rfl := Option.some.inj h
      exact hCL1 _ rfl H locs ls hP hS (lv_sub hl [0, 1, 2] rfl)
  · obtain ⟨m12, rfl⟩ : ∃ z, z = qL1 := ⟨_, rfl⟩
    have h := d_p1 h
    intro H locs ls hP hS hl
    have hP : va_P g.1 vwCl (dws g m12) H := hP
    have hl : lv_has ls 5 [(0, .ref (dad g p0)), (1, .int p1)] := hl
    refine lv_iload_n S.1 S.2.1 dX4_bringIn_39 rfl (lv_at hl 1 rfl) ?_
    refine lv_istore_n (lv' := [(2, .int p1), (0, .ref (dad g p0)), (1, .int p1)]) S.1 S.2.1 dX4_bringIn_40 rfl hl (by decide) rfl (fun ls hl => ?_)
    refine lv_iconst (v := (-1)) S.1 S.2.1 dX4_bringIn_41 (by decide) ?_
    refine lv_istore_n (lv' := [(3, .int (-1)), (2, .int p1), (0, .ref (dad g p0)), (1, .int p1)]) S.1 S.2.1 dX4_bringIn_42 rfl hl (by decide) rfl (fun ls hl => ?_)
    refine lv_iconst (v := 0) S.1 S.2.1 dX4_bringIn_43 (by decide) ?_
    refine lv_istore (lv' := [(4, .int 0), (3, .int (-1)), (2, .int p1), (0, .ref (dad g p0)), (1, .int p1)]) S.1 S.2.1 dX4_bringIn_44 hl (by decide) rfl (fun ls hl => ?_)
    obtain ⟨qL13, hqL13, h⟩ := d_b h
    refine d_lp (Hd := fun q => match q with | (v14, v15, v16, m17) => ∀ (H : Heap) (locs : List Loc) (ls : Array Slot), va_P g.1 vwCl (dws g m17) H → va_S (dA g) s.heap H locs → lv_has ls 5 [(4, .int v14), (3, .int v15), (2, .int v16), (0, .ref (dad g p0)), (1, .int p1)] → W p l e (headSpec wsX4_bringIn (dRm 3 67)).room s mth (([.ref (dad g p0), .int p1] : List Value).toArray) below meth c H locs 0 0 (MQ below (dQV g m0) (([.ref (dad g p0), .int p1] : List Value).toArray) s 0 0 (dA g)) (F0 mth 46 ls [])) (K := fun q => match q with | .inl q => (fun (m40 : _) => ∀ (H : Heap) (locs : List Loc) (ls : Array Slot), va_P g.1 vwCl (dws g m40) H → va_S (dA g) s.heap H locs → lv_has ls 5 [] → W p l e (headSpec wsX4_bringIn (dRm 3 67)).room s mth (([.ref (dad g p0), .int p1] : List Value).toArray) below meth c H locs 0 0 (MQ below (dQV g m0) (([.ref (dad g p0), .int p1] : List Value).toArray) s 0 0 (dA g)) (F0 mth 78 ls [])) q | .inr q => match q with | (v41, m42) => ∀ (H : Heap) (locs : List Loc) (ls : Array Slot), va_P g.1 vwCl (dws g m42) H → va_S (dA g) s.heap H locs → lv_has ls 5 [(0, .ref (dad g p0)), (1, .int p1), (3, .int v41)] → W p l e (headSpec wsX4_bringIn (dRm 3 67)).room s mth (([.ref (dad g p0), .int p1] : List Value).toArray) below meth c H locs 0 0 (MQ below (dQV g m0) (([.ref (dad g p0), .int p1] : List Value).toArray) s 0 0 (dA g)) (F0 mth 110 ls [])) ?_ dFl _ qL13 hqL13 ?_ H locs ls hP hS (lv_sub hl [0, 1, 2, 3, 4] rfl)
    · intro q o h hCL13 hEL13
      obtain ⟨v14, v15, v16, m17⟩ := q
      have h : fX4_bringIn_l46 p0 p1 v14 v15 v16 m17 = some o := h
      intro H locs ls hP hS hl
      have hP : va_P g.1 vwCl (dws g m17) H := hP
      have hl : lv_has ls 5 [(4, .int v14), (3, .int v15), (2, .int v16), (0, .ref (dad g p0)), (1, .int p1)] := hl
      unfold fX4_bringIn_l46 at h
      refine lv_iload S.1 S.2.1 dX4_bringIn_46 (lv_at hl 0 rfl) ?_
      refine lv_aload_n S.1 S.2.1 dX4_bringIn_48 rfl (lv_at hl 3 rfl) ?_
      refine dgf4_7 S in4 hE hP k0 (S.2.2.2.2 (.fieldLink RX4 43 "DrillField$Pairing" "number" "I") (List.mem_of_getElem? (i := 1) rfl)) dX4_bringIn_49 ?_
      refine lv_icmp_ge (tgt := 110) S.1 S.2.1 dX4_bringIn_52 (by decide) (fun cq => ?_) (fun cq => ?_)
      · have h := d_t cq h
        obtain rfl := Option.some.inj h
        exact hEL13 _ rfl H locs ls hP hS (lv_sub hl [3, 4, 1] rfl)
      · have h := d_f cq h
        refine lv_iload_n S.1 S.2.1 dX4_bringIn_55 rfl (lv_at hl 2 rfl) ?_
        refine lv_iconst (v := (-1)) S.1 S.2.1 dX4_bringIn_56 (by decide) ?_
        refine lv_icmp_eq (tgt := 110) S.1 S.2.1 dX4_bringIn_57 (by decide) (fun cq => ?_) (fun cq => ?_)
        · have h := d_t cq h
          obtain rfl := Option.some.inj h
          exact hEL13 _ rfl H locs ls hP hS (lv_sub hl [3, 4, 1] rfl)
        · have h := d_f cq h
          refine lv_aload_n S.1 S.2.1 dX4_bringIn_60 rfl (lv_at hl 3 rfl) ?_
          refine lv_iload_n S.1 S.2.1 dX4_bringIn_61 rfl (lv_at hl 2 rfl) ?_
          refine lv_iload_n S.1 S.2.1 dX4_bringIn_62 rfl (lv_at hl 1 rfl) ?_
          obtain ⟨m30, hc29, h⟩ := d_b h
          refine drv (va_runV (As := [.int v16, .int v15]) (rest := []) S (kX4_narrowGaps l g hc29) (cwV 2 S.2.2.2.2 gX4_bringIn_X4_narrowGaps rfl rfl rfl ynX4_narrowGaps ⟨Nat.le_of_ble_eq_true rfl, Nat.le_of_ble_eq_true rfl⟩) (dpV hE hP hS (ci := 4) rfl (dat5 k0)) rfl rfl hl.1 rfl (lv_room (Nat.le_of_ble_eq_true rfl)) dX4_bringIn_63 ⟨Nat.le_of_ble_eq_true rfl, Nat.le_of_ble_eq_true rfl⟩) hS (fun H locs hP hS => ?_)
          refine lv_aload_n S.1 S.2.1 dX4_bringIn_66 rfl (lv_at hl 3 rfl) ?_
          obtain ⟨v32, hc31, h⟩ := d_b h
          refine dri (va_runV (As := []) (rest := []) S (kX4_nearestPlace l g hc31) (cwV 0 S.2.2.2.2 gX4_bringIn_X4_nearestPlace rfl rfl rfl ynX4_nearestPlace ⟨Nat.le_of_ble_eq_true rfl, Nat.le_of_ble_eq_true rfl⟩) (dpV hE hP hS (ci := 4) rfl (dat5 k0)) rfl rfl hl.1 rfl (lv_room (Nat.le_of_ble_eq_true rfl)) dX4_bringIn_67 ⟨Nat.le_of_ble_eq_true rfl, Nat.le_of_ble_eq_true rfl⟩) hS (fun H locs hP hS => ?_)
          refine lv_istore_n (lv' := [(3, .int v32), (4, .int v14), (2, .int v16), (0, .ref (dad g p0)), (1, .int p1)]) S.1 S.2.1 dX4_bringIn_70 rfl hl (by decide) rfl (fun ls hl => ?_)
          refine lv_iload_n S.1 S.2.1 dX4_bringIn_71 rfl (lv_at hl 0 rfl) ?_
          obtain ⟨v34, hc33, h⟩ := d_b h
          refine dri (va_runSN (As := [.int v32]) (rest := []) S (kX11_isInRow l g hc33) ⟨va_cnB 1 S.2.2.2.2 gX4_bringIn_X11_isInRow_n85 rfl rfl rfl (dnq_RX4_85 hE) (S.2.2.2.2 (.initialized RX11) (List.mem_of_getElem? (i := 16) rfl)) ynX11_isInRow ⟨Nat.le_of_ble_eq_true rfl, Nat.le_of_ble_eq_true rfl⟩, S.2.2.2.2 (.static yX11_isInRow) (List.mem_of_getElem? (i := 15) rfl), trivial⟩ (dpS hE hP hS) rfl rfl hl.1 rfl (lv_room (Nat.le_of_ble_eq_true rfl)) dX4_bringIn_72 ⟨Nat.le_of_ble_eq_true rfl, Nat.le_of_ble_eq_true rfl⟩) hS (fun H locs hP hS => ?_)
          refine lv_if_ne (tgt := 79) S.1 S.2.1 dX4_bringIn_75 (by decide) (fun cq => ?_) (fun cq => ?_)
          · have h := d_f cq h
            refine lv_aload_n S.1 S.2.1 dX4_bringIn_79 rfl (lv_at hl 3 rfl) ?_
            refine lv_iload_n S.1 S.2.1 dX4_bringIn_80 rfl (lv_at hl 4 rfl) ?_
            refine lv_aload_n S.1 S.2.1 dX4_bringIn_81 rfl (lv_at hl 3 rfl) ?_
            refine dgf4_3 S in4 hE hP k0 (S.2.2.2.2 (.fieldLink RX4 23 "DrillField$Pairing" "gaps" "[J") (List.mem_of_getElem? (i := 2) rfl)) dX4_bringIn_82 ?_
            refine lv_iload_n S.1 S.2.1 dX4_bringIn_85 rfl (lv_at hl 0 rfl) ?_
            obtain ⟨hi, h⟩ := d_g h
            refine d_lald S hE hP dk_167 hi dX4_bringIn_86 ?_
            obtain ⟨m36, hc35, h⟩ := d_b h
            refine drv (va_runV (As := [.int p1, .long (m30.2 167 (Int32.toNatClampNeg (v32)))]) (rest := []) S (kX4_movePrices l g hc35) (cwV 2 S.2.2.2.2 gX4_bringIn_X4_movePrices rfl rfl rfl ynX4_movePrices ⟨Nat.le_of_ble_eq_true rfl, Nat.le_of_ble_eq_true rfl⟩) (dpV hE hP hS (ci := 4) rfl (dat5 k0)) rfl rfl hl.1 rfl (lv_room (Nat.le_of_ble_eq_true rfl)) dX4_bringIn_87 ⟨Nat.le_of_ble_eq_true rfl, Nat.le_of_ble_eq_true rfl⟩) hS (fun H locs hP hS => ?_)
            refine lv_aload_n S.1 S.2.1 dX4_bringIn_90 rfl (lv_at hl 3 rfl) ?_
            refine dgf4_6 S in4 hE hP k0 (S.2.2.2.2 (.fieldLink RX4 33 "DrillField$Pairing" "isReached" "[Z") (List.mem_of_getElem? (i := 5) rfl)) dX4_bringIn_91 ?_
            refine lv_iload_n S.1 S.2.1 dX4_bringIn_94 rfl (lv_at hl 0 rfl) ?_
            refine lv_iconst (v := 1) S.1 S.2.1 dX4_bringIn_95 (by decide) ?_
            obtain ⟨hi, h⟩ := d_g h
            refine d_zast S hE hP hS dk_170 hi (by decide) dX4_bringIn_96 (fun H locs hP hS => ?_)
            obtain ⟨m37, em37⟩ : ∃ z : dM, z = d1 m36 170 (Int32.toNatClampNeg (v32)) 1 := ⟨_, rfl⟩
            have h := d_let em37 h
            rw [← em37] at hP
            refine lv_aload_n S.1 S.2.1 dX4_bringIn_97 rfl (lv_at hl 3 rfl) ?_
            refine dgf4_5 S in4 hE hP k0 (S.2.2.2.2 (.fieldLink RX4 30 "DrillField$Pairing" "holders" "[I") (List.mem_of_getElem? (i := 6) rfl)) dX4_bringIn_98 ?_
            refine lv_iload_n S.1 S.2.1 dX4_bringIn_101 rfl (lv_at hl 0 rfl) ?_
            obtain ⟨hi, h⟩ := d_g h
            refine d_iald S hE hP dk_169 hi dX4_bringIn_102 ?_
            refine lv_topi (fun v38 ev38 => ?_)
            have h := d_let ev38 h
            refine lv_istore_n (lv' := [(2, .int v38), (3, .int v32), (4, .int v14), (0, .ref (dad g p0)), (1, .int p1)]) S.1 S.2.1 dX4_bringIn_103 rfl hl (by decide) rfl (fun ls hl => ?_)
            obtain ⟨v39, ev39⟩ : ∃ z : Int32, z = v14 + 1 := ⟨_, rfl⟩
            have h := d_let ev39 h
            refine lv_iinc (v := v39) (lv' := [(4, .int v39), (2, .int v38), (3, .int v32), (0, .ref (dad g p0)), (1, .int p1)]) S.1 S.2.1 dX4_bringIn_104 hl (k := 2) rfl (by rw [ev39]; rfl) (by decide) rfl (fun ls hl => ?_)
            refine lv_goto (tgt := 46) S.1 S.2.1 dX4_bringIn_107 (by decide) ?_
            obtain rfl := Option.some.inj h
            exact hCL13 _ rfl H locs ls hP hS (lv_sub hl [0, 2, 1, 3, 4] rfl)
          · have h := d_t cq h
            obtain rfl := Option.some.inj h
            exact hEL13 _ rfl H locs ls hP hS (lv_sub hl [] rfl)
    · rcases qL13 with qL13a | qL13b
      · have h := d_s1 h
        obtain ⟨m40, rfl⟩ : ∃ z, z = qL13a := ⟨_, rfl⟩
        have h := d_p1 h
        intro H locs ls hP hS hl
        have hP : va_P g.1 vwCl (dws g m40) H := hP
        have hl : lv_has ls 5 [] := hl
        obtain rfl := Option.some.inj h
        exact dtv S hr hlk hE hP hS dX4_bringIn_78
      · have h := d_s2 h
        obtain ⟨v41, m42⟩ := qL13b
        have h := d_p2 h
        intro H locs ls hP hS hl
        have hP : va_P g.1 vwCl (dws g m42) H := hP
        have hl : lv_has ls 5 [(0, .ref (dad g p0)), (1, .int p1), (3, .int v41)] := hl
        refine lv_aload_n S.1 S.2.1 dX4_bringIn_110 rfl (lv_at hl 0 rfl) ?_
        refine lv_iload_n S.1 S.2.1 dX4_bringIn_111 rfl (lv_at hl 1 rfl) ?_
        refine lv_iload_n S.1 S.2.1 dX4_bringIn_112 rfl (lv_at hl 2 rfl) ?_
        obtain ⟨m44, hc43, h⟩ := d_b h
        refine drv (va_runV (As := [.int p1, .int v41]) (rest := []) S (kX4_sendOn l g hc43) (cwV 2 S.2.2.2.2 gX4_bringIn_X4_sendOn rfl rfl rfl ynX4_sendOn ⟨Nat.le_of_ble_eq_true rfl, Nat.le_of_ble_eq_true rfl⟩) (dpV hE hP hS (ci := 4) rfl (dat5 k0)) rfl rfl hl.1 rfl (lv_room (Nat.le_of_ble_eq_true rfl)) dX4_bringIn_113 ⟨Nat.le_of_ble_eq_true rfl, Nat.le_of_ble_eq_true rfl⟩) hS (fun H locs hP hS => ?_)
        obtain rfl := Option.some.inj h
        exact dtv S hr hlk hE hP hS dX4_bringIn_116
set_option maxRecDepth 20000 in
theorem ggX4_weigh_X9_squareTo : GoodIn wsX4_weigh wsX9_squareTo := goodIn_r _ [9, 10, 11, 12, 13, 14, 15, 16, 25, 26] (by decide +kernel) (by decide +kernel)
set_option maxRecDepth 20000 in
theorem gX4_weigh_X9_squareTo : GoodIn wsX4_weigh (wsV RX4 67 RX9 yX9_squareTo wsX9_squareTo) := goodIn_app (goodIn_of _ (by decide +kernel)) ggX4_weigh_X9_squareTo
theorem dX4_weigh_0 : decode cX4_weigh 0 = .ok (.lconst 1, 1) := by decide +kernel
theorem dX4_weigh_1 : decode cX4_weigh 1 = .ok (.lstore_n 3, 1) := by decide +kernel
theorem dX4_weigh_2 : decode cX4_weigh 2 = .ok (.aload_n 0, 1) := by decide +kernel
theorem dX4_weigh_3 : decode cX4_weigh 3 = .ok (.getfield 43, 3) := by decide +kernel
theorem dX4_weigh_6 : decode cX4_weigh 6 = .ok (.iconst 1, 1) := by decide +kernel
theorem dX4_weigh_7 : decode cX4_weigh 7 = .ok (.isub, 1) := by decide +kernel
theorem dX4_weigh_8 : decode cX4_weigh 8 = .ok (.istore 5, 2) := by decide +kernel
theorem dX4_weigh_10 : decode cX4_weigh 10 = .ok (.iload 5, 2) := by decide +kernel
theorem dX4_weigh_12 : decode cX4_weigh 12 = .ok (.ifCond .lt 63, 3) := by decide +kernel
theorem dX4_weigh_15 : decode cX4_weigh 15 = .ok (.iconst 0, 1) := by decide +kernel
theorem dX4_weigh_16 : decode cX4_weigh 16 = .ok (.istore 6, 2) := by decide +kernel
theorem dX4_weigh_18 : decode cX4_weigh 18 = .ok (.iload 6, 2) := by decide +kernel
theorem dX4_weigh_20 : decode cX4_weigh 20 = .ok (.aload_n 0, 1) := by decide +kernel
theorem dX4_weigh_21 : decode cX4_weigh 21 = .ok (.getfield 43, 3) := by decide +kernel
theorem dX4_weigh_24 : decode cX4_weigh 24 = .ok (.if_icmp .ge 39, 3) := by decide +kernel
theorem dX4_weigh_27 : decode cX4_weigh 27 = .ok (.aload_n 0, 1) := by decide +kernel
theorem dX4_weigh_28 : decode cX4_weigh 28 = .ok (.getfield 11, 3) := by decide +kernel
theorem dX4_weigh_31 : decode cX4_weigh 31 = .ok (.iload 5, 2) := by decide +kernel
theorem dX4_weigh_33 : decode cX4_weigh 33 = .ok (.aaload, 1) := by decide +kernel
theorem dX4_weigh_34 : decode cX4_weigh 34 = .ok (.iload 6, 2) := by decide +kernel
theorem dX4_weigh_36 : decode cX4_weigh 36 = .ok (.ldc2_w 65, 3) := by decide +kernel
theorem dX4_weigh_39 : decode cX4_weigh 39 = .ok (.aload_n 1, 1) := by decide +kernel
theorem dX4_weigh_40 : decode cX4_weigh 40 = .ok (.iload 5, 2) := by decide +kernel
theorem dX4_weigh_42 : decode cX4_weigh 42 = .ok (.aload_n 2, 1) := by decide +kernel
theorem dX4_weigh_43 : decode cX4_weigh 43 = .ok (.iload 6, 2) := by decide +kernel
theorem dX4_weigh_45 : decode cX4_weigh 45 = .ok (.invokevirtual 67, 3) := by decide +kernel
theorem dX4_weigh_48 : decode cX4_weigh 48 = .ok (.i2l, 1) := by decide +kernel
theorem dX4_weigh_49 : decode cX4_weigh 49 = .ok (.lmul, 1) := by decide +kernel
theorem dX4_weigh_50 : decode cX4_weigh 50 = .ok (.lload_n 3, 1) := by decide +kernel
theorem dX4_weigh_51 : decode cX4_weigh 51 = .ok (.iload 6, 2) := by decide +kernel
theorem dX4_weigh_53 : decode cX4_weigh 53 = .ok (.i2l, 1) := by decide +kernel
theorem dX4_weigh_54 : decode cX4_weigh 54 = .ok (.lmul, 1) := by decide +kernel
theorem dX4_weigh_55 : decode cX4_weigh 55 = .ok (.ladd, 1) := by decide +kernel
theorem dX4_weigh_56 : decode cX4_weigh 56 = .ok (.lastore, 1) := by decide +kernel
theorem dX4_weigh_57 : decode cX4_weigh 57 = .ok (.iinc 6 1, 3) := by decide +kernel
theorem dX4_weigh_60 : decode cX4_weigh 60 = .ok (.goto (-42), 3) := by decide +kernel
theorem dX4_weigh_63 : decode cX4_weigh 63 = .ok (.lload_n 3, 1) := by decide +kernel
theorem dX4_weigh_64 : decode cX4_weigh 64 = .ok (.ldc2_w 73, 3) := by decide +kernel
theorem dX4_weigh_67 : decode cX4_weigh 67 = .ok (.lmul, 1) := by decide +kernel
theorem dX4_weigh_68 : decode cX4_weigh 68 = .ok (.lstore_n 3, 1) := by decide +kernel
theorem dX4_weigh_69 : decode cX4_weigh 69 = .ok (.iinc 5 (-1), 3) := by decide +kernel
theorem dX4_weigh_72 : decode cX4_weigh 72 = .ok (.goto (-62), 3) := by decide +kernel
theorem dX4_weigh_75 : decode cX4_weigh 75 = .ok (.return_, 1) := by decide +kernel
def fX4_weigh_l18 (p0 : Nat) (p1 : Nat) (p2 : Nat) (v3 : Int32) (v4 : Int64) (v23 : Int32) (m24 : dM) : Option ((Int32 × dM) ⊕ dM) := if (m24.1 p0 7) ≤ v23 then some (.inr m24) else dg (dIx v3 (dL 154)) (dg (dkg (154 + 1 + (Int32.toNatClampNeg (v3))) 22) ((fX9_squareTo m24 p1 v3 p2 v23).bind (fun v32 => dg (dIx v23 (dL (154 + 1 + (Int32.toNatClampNeg (v3))))) (dlet (d2 m24 (154 + 1 + (Int32.toNatClampNeg (v3))) (Int32.toNatClampNeg (v23)) ((10000000000 * (Int32.toInt64 v32)) + (v4 * (Int32.toInt64 v23)))) (fun m33 => dlet (v23 + 1 : Int32) (fun v34 => some (.inl (v34, m33))))))))
def fX4_weigh_l10 (p0 : Nat) (p1 : Nat) (p2 : Nat) (v3 : Int32) (v4 : Int64) (m5 : dM) : Option ((Int32 × Int64 × dM) ⊕ dM) := if v3 < 0 then some (.inr m5) else (dlp (fun q => dP2 q (fun v23 m24 => fX4_weigh_l18 p0 p1 p2 v3 v4 v23 m24)) dFl (0, m5)).bind (fun q => dP1 q (fun m35 => dlet (v4 * 10 : Int64) (fun v36 => dlet (v3 + (-1) : Int32) (fun v37 => some (.inl (v37, v36, m35))))))
def fX4_weigh (m : dM) (p0 : Nat) (p1 : Nat) (p2 : Nat) : Option dM := dg (dkg p0 5) (dg (dkg p1 10) (dg (dkg p2 10) (dlet ((m.1 p0 7) - 1 : Int32) (fun v1 => (dlp (fun q => dP3 q (fun v3 v4 m5 => fX4_weigh_l10 p0 p1 p2 v3 v4 m5)) dFl (v1, 1, m)).bind (fun q => dP1 q (fun m38 => some m38))))))
set_option maxHeartbeats 4000000 in
set_option maxRecDepth 100000 in
theorem kX4_weigh (l : Launch) (g : dG) {m : dM} {p0 : Nat} {p1 : Nat} {p2 : Nat} {m0 : dM} (h : fX4_weigh m p0 p1 p2 = some m0) : dMet l g yX4_weigh wsX4_weigh (dRm 2 44) [.ref (dad g p0), .ref (dad g p1), .ref (dad g p2)] m (dQV g m0) := by
  refine dof (cc := cX4_weigh) (maxL := 7) (ret := none) _ (plainFor_of_name (by decide)) rfl (Nat.le_of_ble_eq_true rfl) ?_
  intro p e s mth below meth c S hr hlk hE H ls hP hS hl
  have S : CallFix p mth c cX4_weigh 7 s _ wsX4_weigh RX4 := S
  have hl : lv_has ls 7 [(0, .ref (dad g p0)), (1, .ref (dad g p1)), (2, .ref (dad g p2))] := hl
  obtain ⟨locs, hlocs⟩ : ∃ z : List Loc, z = [] := ⟨_, rfl⟩
  rw [← hlocs] at hS ⊢
  have in4 : ∀ w ∈ wsX40, w ∈ wsX4_weigh := by decide +kernel
  unfold fX4_weigh at h
  obtain ⟨k0, h⟩ := d_g h
  have k0 := d_k k0
  obtain ⟨k1, h⟩ := d_g h
  have k1 := d_k k1
  obtain ⟨k2, h⟩ := d_g h
  have k2 := d_k k2
  refine lv_lconst (v := 1) S.1 S.2.1 dX4_weigh_0 (by decide) ?_
  refine lv_lstore_n (lv' := [(3, .long 1), (0, .ref (dad g p0)), (1, .ref (dad g p1)), (2, .ref (dad g p2))]) S.1 S.2.1 dX4_weigh_1 rfl hl (by decide) rfl (fun ls hl => ?_)
  refine lv_aload_n S.1 S.2.1 dX4_weigh_2 rfl (lv_at hl 1 rfl) ?_
  refine dgf4_7 S in4 hE hP k0 (S.2.2.2.2 (.fieldLink RX4 43 "DrillField$Pairing" "number" "I") (List.mem_of_getElem? (i := 1) rfl)) dX4_weigh_3 ?_
  refine lv_iconst (v := 1) S.1 S.2.1 dX4_weigh_6 (by decide) ?_
  refine lv_isub S.1 S.2.1 dX4_weigh_7 ?_
  refine lv_topi (fun v1 ev1 => ?_)
  have h := d_let ev1 h
  refine lv_istore (lv' := [(5, .int v1), (3, .long 1), (0, .ref (dad g p0)), (1, .ref (dad g p1)), (2, .ref (dad g p2))]) S.1 S.2.1 dX4_weigh_8 hl (by decide) rfl (fun ls hl => ?_)
  obtain ⟨qL2, hqL2, h⟩ := d_b h
  refine d_lp (Hd := fun q => match q with | (v3, v4, m5) => ∀ (H : Heap) (locs : List Loc) (ls : Array Slot), va_P g.1 vwCl (dws g m5) H → va_S (dA g) s.heap H locs → lv_has ls 7 [(5, .int v3), (3, .long v4), (0, .ref (dad g p0)), (1, .ref (dad g p1)), (2, .ref (dad g p2))] → W p l e (headSpec wsX4_weigh (dRm 2 44)).room s mth (([.ref (dad g p0), .ref (dad g p1), .ref (dad g p2)] : List Value).toArray) below meth c H locs 0 0 (MQ below (dQV g m0) (([.ref (dad g p0), .ref (dad g p1), .ref (dad g p2)] : List Value).toArray) s 0 0 (dA g)) (F0 mth 10 ls [])) (K := fun q => (fun (m38 : _) => ∀ (H : Heap) (locs : List Loc) (ls : Array Slot), va_P g.1 vwCl (dws g m38) H → va_S (dA g) s.heap H locs → lv_has ls 7 [] → W p l e (headSpec wsX4_weigh (dRm 2 44)).room s mth (([.ref (dad g p0), .ref (dad g p1), .ref (dad g p2)] : List Value).toArray) below meth c H locs 0 0 (MQ below (dQV g m0) (([.ref (dad g p0), .ref (dad g p1), .ref (dad g p2)] : List Value).toArray) s 0 0 (dA g)) (F0 mth 75 ls [])) q) ?_ dFl _ qL2 hqL2 ?_ H locs ls hP hS (lv_sub hl [0, 1, 2, 3, 4] rfl)
  · intro q o h hCL2 hEL2
    obtain ⟨v3, v4, m5⟩ := q
    have h : fX4_weigh_l10 p0 p1 p2 v3 v4 m5 = some o := h
    intro H locs ls hP hS hl
    have hP : va_P g.1 vwCl (dws g m5) H := hP
    have hl : lv_has ls 7 [(5, .int v3), (3, .long v4), (0, .ref (dad g p0)), (1, .ref (dad g p1)), (2, .ref (dad g p2))] := hl
    unfold fX4_weigh_l10 at h
    refine lv_iload S.1 S.2.1 dX4_weigh_10 (lv_at hl 0 rfl) ?_
    refine lv_if_lt (tgt := 75) S.1 S.2.1 dX4_weigh_12 (by decide) (fun cq => ?_) (fun cq => ?_)
    · have h := d_t cq h
      obtain rfl := Option.some.inj h
      exact hEL2 _ rfl H locs ls hP hS (lv_sub hl [] rfl)
    · have h := d_f cq h
      refine lv_iconst (v := 0) S.1 S.2.1 dX4_weigh_15 (by decide) ?_
      refine lv_istore (lv' := [(6, .int 0), (5, .int v3), (3, .long v4), (0, .ref (dad g p0)), (1, .ref (dad g p1)), (2, .ref (dad g p2))]) S.1 S.2.1 dX4_weigh_16 hl (by decide) rfl (fun ls hl => ?_)
      obtain ⟨qL22, hqL22, h⟩ := d_b h
      refine d_lp (Hd := fun q => match q with | (v23, m24) => ∀ (H : Heap) (locs : List Loc) (ls : Array Slot), va_P g.1 vwCl (dws g m24) H → va_S (dA g) s.heap H locs → lv_has ls 7 [(6, .int v23), (5, .int v3), (3, .long v4), (0, .ref (dad g p0)), (1, .ref (dad g p1)), (2, .ref (dad g p2))] → W p l e (headSpec wsX4_weigh (dRm 2 44)).room s mth (([.ref (dad g p0), .ref (dad g p1), .ref (dad g p2)] : List Value).toArray) below meth c H locs 0 0 (MQ below (dQV g m0) (([.ref (dad g p0), .ref (dad g p1), .ref (dad g p2)] : List Value).toArray) s 0 0 (dA g)) (F0 mth 18 ls [])) (K := fun q => (fun (m35 : _) => ∀ (H : Heap) (locs : List Loc) (ls : Array Slot), va_P g.1 vwCl (dws g m35) H → va_S (dA g) s.heap H locs → lv_has ls 7 [(0, .ref (dad g p0)), (1, .ref (dad g p1)), (2, .ref (dad g p2)), (3, .long v4), (5, .int v3)] → W p l e (headSpec wsX4_weigh (dRm 2 44)).room s mth (([.ref (dad g p0), .ref (dad g p1), .ref (dad g p2)] : List Value).toArray) below meth c H locs 0 0 (MQ below (dQV g m0) (([.ref (dad g p0), .ref (dad g p1), .ref (dad g p2)] : List Value).toArray) s 0 0 (dA g)) (F0 mth 63 ls [])) q) ?_ dFl _ qL22 hqL22 ?_ H locs ls hP hS (lv_sub hl [0, 1, 2, 3, 4, 5] rfl)
      · intro q o h hCL22 hEL22
        obtain ⟨v23, m24⟩ := q
        have h : fX4_weigh_l18 p0 p1 p2 v3 v4 v23 m24 = some o := h
        intro H locs ls hP hS hl
        have hP : va_P g.1 vwCl (dws g m24) H := hP
        have hl : lv_has ls 7 [(6, .int v23), (5, .int v3), (3, .long v4), (0, .ref (dad g p0)), (1, .ref (dad g p1)), (2, .ref (dad g p2))] := hl
        unfold fX4_weigh_l18 at h
        refine lv_iload S.1 S.2.1 dX4_weigh_18 (lv_at hl 0 rfl) ?_
        refine lv_aload_n S.1 S.2.1 dX4_weigh_20 rfl (lv_at hl 3 rfl) ?_
        refine dgf4_7 S in4 hE hP k0 (S.2.2.2.2 (.fieldLink RX4 43 "DrillField$Pairing" "number" "I") (List.mem_of_getElem? (i := 1) rfl)) dX4_weigh_21 ?_
        refine lv_icmp_ge (tgt := 63) S.1 S.2.1 dX4_weigh_24 (by decide) (fun cq => ?_) (fun cq => ?_)
        · have h := d_t cq h
          obtain rfl := Option.some.inj h
          exact hEL22 _ rfl H locs ls hP hS (lv_sub hl [3, 4, 5, 2, 1] rfl)
        · have h := d_f cq h
          refine lv_aload_n S.1 S.2.1 dX4_weigh_27 rfl (lv_at hl 3 rfl) ?_
          refine dgf4_0 S in4 hE hP k0 (S.2.2.2.2 (.fieldLink RX4 11 "DrillField$Pairing" "weights" "[[J") (List.mem_of_getElem? (i := 2) rfl)) dX4_weigh_28 ?_
          refine lv_iload S.1 S.2.1 dX4_weigh_31 (lv_at hl 1 rfl) ?_
          obtain ⟨hi, h⟩ := d_g h
          obtain ⟨hk30, h⟩ := d_g h
          have hk30 := d_k hk30
          refine d_aald (r := dad g (154 + 1 + (Int32.toNatClampNeg (v3)))) (ty := .array .long) 6 S hE hP (dat26 dk_154) rfl rfl hi (if_pos (dIx_lt hi)) dX4_weigh_33 ?_
          refine lv_iload S.1 S.2.1 dX4_weigh_34 (lv_at hl 0 rfl) ?_
          refine lv_ldc2 (v := 10000000000) S.1 S.2.1 S.2.2.2.1 (S.2.2.2.2 (.constantLong RX4 65 (10000000000)) (List.mem_of_getElem? (i := 3) rfl)) dX4_weigh_36 ?_
          refine lv_aload_n S.1 S.2.1 dX4_weigh_39 rfl (lv_at hl 4 rfl) ?_
          refine lv_iload S.1 S.2.1 dX4_weigh_40 (lv_at hl 1 rfl) ?_
          refine lv_aload_n S.1 S.2.1 dX4_weigh_42 rfl (lv_at hl 5 rfl) ?_
          refine lv_iload S.1 S.2.1 dX4_weigh_43 (lv_at hl 0 rfl) ?_
          obtain ⟨v32, hc31, h⟩ := d_b h
          refine dri (va_runV (As := [.int v3, .ref (dad g p2), .int v23]) (rest := [.long 10000000000, .int v23, .ref (dad g (154 + 1 + (Int32.toNatClampNeg (v3))))]) S (kX9_squareTo l g hc31) (cwV 3 S.2.2.2.2 gX4_weigh_X9_squareTo rfl rfl rfl ynX9_squareTo ⟨Nat.le_of_ble_eq_true rfl, Nat.le_of_ble_eq_true rfl⟩) (dpV hE hP hS (ci := 9) rfl (dat10 k1)) rfl rfl hl.1 rfl (lv_room (Nat.le_of_ble_eq_true rfl)) dX4_weigh_45 ⟨Nat.le_of_ble_eq_true rfl, Nat.le_of_ble_eq_true rfl⟩) hS (fun H locs hP hS => ?_)
          refine lv_i2l S.1 S.2.1 dX4_weigh_48 rfl ?_
          refine lv_lmul S.1 S.2.1 dX4_weigh_49 ?_
          refine lv_lload_n S.1 S.2.1 dX4_weigh_50 rfl (lv_at hl 2 rfl) ?_
          refine lv_iload S.1 S.2.1 dX4_weigh_51 (lv_at hl 0 rfl) ?_
          refine lv_i2l S.1 S.2.1 dX4_weigh_53 rfl ?_
          refine lv_lmul S.1 S.2.1 dX4_weigh_54 ?_
          refine lv_ladd S.1 S.2.1 dX4_weigh_55 ?_
          obtain ⟨hi, h⟩ := d_g h
          refine d_last S hE hP hS hk30 hi dX4_weigh_56 (fun H locs hP hS => ?_)
          obtain ⟨m33, em33⟩ : ∃ z : dM, z = d2 m24 (154 + 1 + (Int32.toNatClampNeg (v3))) (Int32.toNatClampNeg (v23)) ((10000000000 * (Int32.toInt64 v32)) + (v4 * (Int32.toInt64 v23))) := ⟨_, rfl⟩
          have h := d_let em33 h
          rw [← em33] at hP
          obtain ⟨v34, ev34⟩ : ∃ z : Int32, z = v23 + 1 := ⟨_, rfl⟩
          have h := d_let ev34 h
          refine lv_iinc (v := v34) (lv' := [(6, .int v34), (5, .int v3), (3, .long v4), (0, .ref (dad g p0)), (1, .ref (dad g p1)), (2, .ref (dad g p2))]) S.1 S.2.1 dX4_weigh_57 hl (k := 0) rfl (by rw [ev34]; rfl) (by decide) rfl (fun ls hl => ?_)
          refine lv_goto (tgt := 18) S.1 S.2.1 dX4_weigh_60 (by decide) ?_
          obtain rfl := Option.some.inj h
          exact hCL22 _ rfl H locs ls hP hS (lv_sub hl [0, 1, 2, 3, 4, 5] rfl)
      · obtain ⟨m35, rfl⟩ : ∃ z, z = qL22 := ⟨_, rfl⟩
        have h := d_p1 h
        intro H locs ls hP hS hl
        have hP : va_P g.1 vwCl (dws g m35) H := hP
        have hl : lv_has ls 7 [(0, .ref (dad g p0)), (1, .ref (dad g p1)), (2, .ref (dad g p2)), (3, .long v4), (5, .int v3)] := hl
        refine lv_lload_n S.1 S.2.1 dX4_weigh_63 rfl (lv_at hl 3 rfl) ?_
        refine lv_ldc2 (v := 10) S.1 S.2.1 S.2.2.2.1 (S.2.2.2.2 (.constantLong RX4 73 (10)) (List.mem_of_getElem? (i := 4) rfl)) dX4_weigh_64 ?_
        refine lv_lmul S.1 S.2.1 dX4_weigh_67 ?_
        refine lv_topl (fun v36 ev36 => ?_)
        have h := d_let ev36 h
        refine lv_lstore_n (lv' := [(3, .long v36), (0, .ref (dad g p0)), (1, .ref (dad g p1)), (2, .ref (dad g p2)), (5, .int v3)]) S.1 S.2.1 dX4_weigh_68 rfl hl (by decide) rfl (fun ls hl => ?_)
        obtain ⟨v37, ev37⟩ : ∃ z : Int32, z = v3 + (-1) := ⟨_, rfl⟩
        have h := d_let ev37 h
        refine lv_iinc (v := v37) (lv' := [(5, .int v37), (3, .long v36), (0, .ref (dad g p0)), (1, .ref (dad g p1)), (2, .ref (dad g p2))]) S.1 S.2.1 dX4_weigh_69 hl (k := 4) rfl (by rw [ev37]; rfl) (by decide) rfl (fun ls hl => ?_)
        refine lv_goto (tgt := 10) S.1 S.2.1 dX4_weigh_72 (by decide) ?_
        obtain rfl := Option.some.inj h
        exact hCL2 _ rfl H locs ls hP hS (lv_sub hl [0, 1, 2, 3, 4] rfl)
  · obtain ⟨m38, rfl⟩ : ∃ z, z = qL2 := ⟨_, rfl⟩
    have h := d_p1 h
    intro H locs ls hP hS hl
    have hP : va_P g.1 vwCl (dws g m38) H := hP
    have hl : lv_has ls 7 [] := hl
    obtain rfl := Option.some.inj h
    exact dtv S hr hlk hE hP hS dX4_weigh_75
set_option maxRecDepth 20000 in
theorem ggX4_send_X5_starts : GoodIn wsX4_send wsX5_starts := goodIn_r _ [13, 14, 89, 90, 91, 92, 93, 94, 95] (by decide +kernel) (by decide +kernel)
set_option maxRecDepth 20000 in
theorem gX4_send_X5_starts : GoodIn wsX4_send (wsV RX4 47 RX5 yX5_starts wsX5_starts) := goodIn_app (goodIn_of _ (by decide +kernel)) ggX4_send_X5_starts
set_option maxRecDepth 20000 in
theorem ggX4_send_X4_weigh : GoodIn wsX4_send wsX4_weigh := goodIn_r _ [19, 5, 20, 21, 22, 23, 24, 25, 26, 27, 28, 29, 30, 31, 32, 33, 34, 81, 82, 83, 84, 85, 86, 87, 88, 96, 97] (by decide +kernel) (by decide +kernel)
set_option maxRecDepth 20000 in
theorem gX4_send_X4_weigh : GoodIn wsX4_send (wsV RX4 53 RX4 yX4_weigh wsX4_weigh) := goodIn_app (goodIn_of _ (by decide +kernel)) ggX4_send_X4_weigh
set_option maxRecDepth 20000 in
theorem ggX4_send_X4_bringIn : GoodIn wsX4_send wsX4_bringIn := goodIn_r _ [38, 5, 39, 40, 41, 42, 8, 43, 44, 45, 18, 46, 20, 6, 7, 30, 31, 32, 47, 48, 49, 50, 51, 52, 53, 54, 55, 56, 57, 58, 59, 60, 61, 62, 81, 82, 83, 84, 85, 86, 87, 88] (by decide +kernel) (by decide +kernel)
set_option maxRecDepth 20000 in
theorem gX4_send_X4_bringIn : GoodIn wsX4_send (wsV RX4 57 RX4 yX4_bringIn wsX4_bringIn) := goodIn_app (goodIn_of _ (by decide +kernel)) ggX4_send_X4_bringIn
set_option maxRecDepth 20000 in
theorem ggX4_send_X5_send : GoodIn wsX4_send wsX5_send := goodIn_r _ [66, 67, 68, 30, 31, 32, 69, 70, 71, 26, 72, 28, 73, 74, 75, 76, 29, 77, 78, 79, 80, 89, 90, 91, 92, 93, 94, 95, 96, 97] (by decide +kernel) (by decide +kernel)
set_option maxRecDepth 20000 in
theorem gX4_send_X5_send : GoodIn wsX4_send (wsV RX4 61 RX5 yX5_send wsX5_send) := goodIn_app (goodIn_of _ (by decide +kernel)) ggX4_send_X5_send
theorem dX4_send_0 : decode cX4_send 0 = .ok (.aload_n 0, 1) := by decide +kernel
theorem dX4_send_1 : decode cX4_send 1 = .ok (.iload_n 3, 1) := by decide +kernel
theorem dX4_send_2 : decode cX4_send 2 = .ok (.bipush 10, 2) := by decide +kernel
theorem dX4_send_4 : decode cX4_send 4 = .ok (.invokestatic 37, 3) := by decide +kernel
theorem dX4_send_7 : decode cX4_send 7 = .ok (.putfield 43, 3) := by decide +kernel
theorem dX4_send_10 : decode cX4_send 10 = .ok (.aload_n 0, 1) := by decide +kernel
theorem dX4_send_11 : decode cX4_send 11 = .ok (.aload_n 1, 1) := by decide +kernel
theorem dX4_send_12 : decode cX4_send 12 = .ok (.invokevirtual 47, 3) := by decide +kernel
theorem dX4_send_15 : decode cX4_send 15 = .ok (.aload_n 2, 1) := by decide +kernel
theorem dX4_send_16 : decode cX4_send 16 = .ok (.invokevirtual 53, 3) := by decide +kernel
theorem dX4_send_19 : decode cX4_send 19 = .ok (.iconst 0, 1) := by decide +kernel
theorem dX4_send_20 : decode cX4_send 20 = .ok (.istore 4, 2) := by decide +kernel
theorem dX4_send_22 : decode cX4_send 22 = .ok (.iload 4, 2) := by decide +kernel
theorem dX4_send_24 : decode cX4_send 24 = .ok (.aload_n 0, 1) := by decide +kernel
theorem dX4_send_25 : decode cX4_send 25 = .ok (.getfield 43, 3) := by decide +kernel
theorem dX4_send_28 : decode cX4_send 28 = .ok (.if_icmp .ge 33, 3) := by decide +kernel
theorem dX4_send_31 : decode cX4_send 31 = .ok (.aload_n 0, 1) := by decide +kernel
theorem dX4_send_32 : decode cX4_send 32 = .ok (.getfield 16, 3) := by decide +kernel
theorem dX4_send_35 : decode cX4_send 35 = .ok (.iload 4, 2) := by decide +kernel
theorem dX4_send_37 : decode cX4_send 37 = .ok (.lconst 0, 1) := by decide +kernel
theorem dX4_send_38 : decode cX4_send 38 = .ok (.lastore, 1) := by decide +kernel
theorem dX4_send_39 : decode cX4_send 39 = .ok (.aload_n 0, 1) := by decide +kernel
theorem dX4_send_40 : decode cX4_send 40 = .ok (.getfield 20, 3) := by decide +kernel
theorem dX4_send_43 : decode cX4_send 43 = .ok (.iload 4, 2) := by decide +kernel
theorem dX4_send_45 : decode cX4_send 45 = .ok (.lconst 0, 1) := by decide +kernel
theorem dX4_send_46 : decode cX4_send 46 = .ok (.lastore, 1) := by decide +kernel
theorem dX4_send_47 : decode cX4_send 47 = .ok (.aload_n 0, 1) := by decide +kernel
theorem dX4_send_48 : decode cX4_send 48 = .ok (.getfield 30, 3) := by decide +kernel
theorem dX4_send_51 : decode cX4_send 51 = .ok (.iload 4, 2) := by decide +kernel
theorem dX4_send_53 : decode cX4_send 53 = .ok (.iconst (-1), 1) := by decide +kernel
theorem dX4_send_54 : decode cX4_send 54 = .ok (.iastore, 1) := by decide +kernel
theorem dX4_send_55 : decode cX4_send 55 = .ok (.iinc 4 1, 3) := by decide +kernel
theorem dX4_send_58 : decode cX4_send 58 = .ok (.goto (-36), 3) := by decide +kernel
theorem dX4_send_61 : decode cX4_send 61 = .ok (.iconst 0, 1) := by decide +kernel
theorem dX4_send_62 : decode cX4_send 62 = .ok (.istore 4, 2) := by decide +kernel
theorem dX4_send_64 : decode cX4_send 64 = .ok (.iload 4, 2) := by decide +kernel
theorem dX4_send_66 : decode cX4_send 66 = .ok (.aload_n 0, 1) := by decide +kernel
theorem dX4_send_67 : decode cX4_send 67 = .ok (.getfield 43, 3) := by decide +kernel
theorem dX4_send_70 : decode cX4_send 70 = .ok (.if_icmp .ge 15, 3) := by decide +kernel
theorem dX4_send_73 : decode cX4_send 73 = .ok (.aload_n 0, 1) := by decide +kernel
theorem dX4_send_74 : decode cX4_send 74 = .ok (.iload 4, 2) := by decide +kernel
theorem dX4_send_76 : decode cX4_send 76 = .ok (.invokevirtual 57, 3) := by decide +kernel
theorem dX4_send_79 : decode cX4_send 79 = .ok (.iinc 4 1, 3) := by decide +kernel
theorem dX4_send_82 : decode cX4_send 82 = .ok (.goto (-18), 3) := by decide +kernel
theorem dX4_send_85 : decode cX4_send 85 = .ok (.iconst 0, 1) := by decide +kernel
theorem dX4_send_86 : decode cX4_send 86 = .ok (.istore 4, 2) := by decide +kernel
theorem dX4_send_88 : decode cX4_send 88 = .ok (.iload 4, 2) := by decide +kernel
theorem dX4_send_90 : decode cX4_send 90 = .ok (.aload_n 0, 1) := by decide +kernel
theorem dX4_send_91 : decode cX4_send 91 = .ok (.getfield 43, 3) := by decide +kernel
theorem dX4_send_94 : decode cX4_send 94 = .ok (.if_icmp .ge 23, 3) := by decide +kernel
theorem dX4_send_97 : decode cX4_send 97 = .ok (.aload_n 1, 1) := by decide +kernel
theorem dX4_send_98 : decode cX4_send 98 = .ok (.aload_n 0, 1) := by decide +kernel
theorem dX4_send_99 : decode cX4_send 99 = .ok (.getfield 30, 3) := by decide +kernel
theorem dX4_send_102 : decode cX4_send 102 = .ok (.iload 4, 2) := by decide +kernel
theorem dX4_send_104 : decode cX4_send 104 = .ok (.iaload, 1) := by decide +kernel
theorem dX4_send_105 : decode cX4_send 105 = .ok (.iload 4, 2) := by decide +kernel
theorem dX4_send_107 : decode cX4_send 107 = .ok (.aload_n 2, 1) := by decide +kernel
theorem dX4_send_108 : decode cX4_send 108 = .ok (.invokevirtual 61, 3) := by decide +kernel
theorem dX4_send_111 : decode cX4_send 111 = .ok (.iinc 4 1, 3) := by decide +kernel
theorem dX4_send_114 : decode cX4_send 114 = .ok (.goto (-26), 3) := by decide +kernel
theorem dX4_send_117 : decode cX4_send 117 = .ok (.return_, 1) := by decide +kernel
def fX4_send_l22 (p0 : Nat) (v8 : Int32) (m9 : dM) : Option ((Int32 × dM) ⊕ dM) := if (m9.1 p0 7) ≤ v8 then some (.inr m9) else dg (dIx v8 (dL 165)) (dlet (d2 m9 165 (Int32.toNatClampNeg (v8)) 0) (fun m14 => dg (dIx v8 (dL 166)) (dlet (d2 m14 166 (Int32.toNatClampNeg (v8)) 0) (fun m15 => dg (dIx v8 (dL 169)) (dlet (d1 m15 169 (Int32.toNatClampNeg (v8)) (-1)) (fun m16 => dlet (v8 + 1 : Int32) (fun v17 => some (.inl (v17, m16)))))))))
def fX4_send_l64 (p0 : Nat) (v20 : Int32) (m21 : dM) : Option ((Int32 × dM) ⊕ dM) := if (m21.1 p0 7) ≤ v20 then some (.inr m21) else (fX4_bringIn m21 p0 v20).bind (fun m26 => dlet (v20 + 1 : Int32) (fun v27 => some (.inl (v27, m26))))
def fX4_send_l88 (p0 : Nat) (p1 : Nat) (p2 : Nat) (v30 : Int32) (m31 : dM) : Option ((Int32 × dM) ⊕ dM) := if (m31.1 p0 7) ≤ v30 then some (.inr m31) else dg (dIx v30 (dL 169)) ((fX5_send m31 p1 (m31.1 169 (Int32.toNatClampNeg (v30))) v30 p2).bind (fun m36 => dlet (v30 + 1 : Int32) (fun v37 => some (.inl (v37, m36)))))
def fX4_send (m : dM) (p0 : Nat) (p1 : Nat) (p2 : Nat) (p3 : Int32) : Option dM := dg (dkg p0 5) (dg (dkg p1 6) (dg (dkg p2 10) (dlet (d1 m p0 7 (if 10 < p3 then 10 else p3)) (fun m1 => (fX5_starts m1 p1).bind (fun v3 => dg (dkg v3 10) ((fX4_weigh m1 p0 v3 p2).bind (fun m6 => (dlp (fun q => dP2 q (fun v8 m9 => fX4_send_l22 p0 v8 m9)) dFl (0, m6)).bind (fun q => dP1 q (fun m18 => (dlp (fun q => dP2 q (fun v20 m21 => fX4_send_l64 p0 v20 m21)) dFl (0, m18)).bind (fun q => dP1 q (fun m28 => (dlp (fun q => dP2 q (fun v30 m31 => fX4_send_l88 p0 p1 p2 v30 m31)) dFl (0, m28)).bind (fun q => dP1 q (fun m38 => some m38)))))))))))))
set_option maxHeartbeats 4000000 in
set_option maxRecDepth 100000 in
theorem kX4_send (l : Launch) (g : dG) {m : dM} {p0 : Nat} {p1 : Nat} {p2 : Nat} {p3 : Int32} {m0 : dM} (h : fX4_send m p0 p1 p2 p3 = some m0) : dMet l g yX4_send wsX4_send (dRm 4 91) [.ref (dad g p0), .ref (dad g p1), .ref (dad g p2), .int p3] m (dQV g m0) := by
  refine dof (cc := cX4_send) (maxL := 5) (ret := none) _ (plainFor_of_name (by decide)) rfl (Nat.le_of_ble_eq_true rfl) ?_
  intro p e s mth below meth c S hr hlk hE H ls hP hS hl
  have S : CallFix p mth c cX4_send 5 s _ wsX4_send RX4 := S
  have hl : lv_has ls 5 [(0, .ref (dad g p0)), (1, .ref (dad g p1)), (2, .ref (dad g p2)), (3, .int p3)] := hl
  obtain ⟨locs, hlocs⟩ : ∃ z : List Loc, z = [] := ⟨_, rfl⟩
  rw [← hlocs] at hS ⊢
  have in4 : ∀ w ∈ wsX40, w ∈ wsX4_send := by decide +kernel
  unfold fX4_send at h
  obtain ⟨k0, h⟩ := d_g h
  have k0 := d_k k0
  obtain ⟨k1, h⟩ := d_g h
  have k1 := d_k k1
  obtain ⟨k2, h⟩ := d_g h
  have k2 := d_k k2
  refine lv_aload_n S.1 S.2.1 dX4_send_0 rfl (lv_at hl 0 rfl) ?_
  refine lv_iload_n S.1 S.2.1 dX4_send_1 rfl (lv_at hl 3 rfl) ?_
  refine lv_bipush (v := 10) S.1 S.2.1 dX4_send_2 (by decide) ?_
  refine va_mmin S.1 S.2.1 (S.2.2.1.trans hl.1.symm) S.2.2.2.1 (S.2.2.2.2 (.methodLink RX4 37 Lib.Math.min.name) (List.mem_of_getElem? (i := 1) rfl)) (S.2.2.2.2 (.static Lib.Math.min.name) (List.mem_of_getElem? (i := 2) rfl)) (S.2.2.2.2 (.initialized "java/lang/Math") (List.mem_of_getElem? (i := 3) rfl)) (S.2.2.2.2 (.code Lib.Math.min.name Lib.Math.min.code 2 (some .int)) (List.mem_of_getElem? (i := 4) rfl)) (Nat.le_of_ble_eq_true rfl) (Nat.le_of_ble_eq_true rfl) (Nat.le_of_ble_eq_true rfl) (Nat.le_of_ble_eq_true rfl) dX4_send_4 ?_
  refine dpf4_7 S in4 hE hP hS k0 (S.2.2.2.2 (.fieldLink RX4 43 "DrillField$Pairing" "number" "I") (List.mem_of_getElem? (i := 5) rfl)) dX4_send_7 (fun H locs hP hS => ?_)
  obtain ⟨m1, em1⟩ : ∃ z : dM, z = d1 m p0 7 (if 10 < p3 then 10 else p3) := ⟨_, rfl⟩
  have h := d_let em1 h
  rw [← em1] at hP
  refine lv_aload_n S.1 S.2.1 dX4_send_10 rfl (lv_at hl 0 rfl) ?_
  refine lv_aload_n S.1 S.2.1 dX4_send_11 rfl (lv_at hl 1 rfl) ?_
  obtain ⟨v3, hc2, h⟩ := d_b h
  obtain ⟨hk4, h⟩ := d_g h
  have hk4 := d_k hk4
  refine drr (va_runV (As := []) (rest := [.ref (dad g p0)]) S (kX5_starts l g hc2) (cwV 0 S.2.2.2.2 gX4_send_X5_starts rfl rfl rfl ynX5_starts ⟨Nat.le_of_ble_eq_true rfl, Nat.le_of_ble_eq_true rfl⟩) (dpV hE hP hS (ci := 5) rfl (dat6 k1)) rfl rfl hl.1 rfl (lv_room (Nat.le_of_ble_eq_true rfl)) dX4_send_12 ⟨Nat.le_of_ble_eq_true rfl, Nat.le_of_ble_eq_true rfl⟩) hS (fun H locs hP hS => ?_)
  refine lv_aload_n S.1 S.2.1 dX4_send_15 rfl (lv_at hl 2 rfl) ?_
  obtain ⟨m6, hc5, h⟩ := d_b h
  refine drv (va_runV (As := [.ref (dad g v3), .ref (dad g p2)]) (rest := []) S (kX4_weigh l g hc5) (cwV 2 S.2.2.2.2 gX4_send_X4_weigh rfl rfl rfl ynX4_weigh ⟨Nat.le_of_ble_eq_true rfl, Nat.le_of_ble_eq_true rfl⟩) (dpV hE hP hS (ci := 4) rfl (dat5 k0)) rfl rfl hl.1 rfl (lv_room (Nat.le_of_ble_eq_true rfl)) dX4_send_16 ⟨Nat.le_of_ble_eq_true rfl, Nat.le_of_ble_eq_true rfl⟩) hS (fun H locs hP hS => ?_)
  refine lv_iconst (v := 0) S.1 S.2.1 dX4_send_19 (by decide) ?_
  refine lv_istore (lv' := [(4, .int 0), (0, .ref (dad g p0)), (1, .ref (dad g p1)), (2, .ref (dad g p2)), (3, .int p3)]) S.1 S.2.1 dX4_send_20 hl (by decide) rfl (fun ls hl => ?_)
  obtain ⟨qL7, hqL7, h⟩ := d_b h
  refine d_lp (Hd := fun q => match q with | (v8, m9) => ∀ (H : Heap) (locs : List Loc) (ls : Array Slot), va_P g.1 vwCl (dws g m9) H → va_S (dA g) s.heap H locs → lv_has ls 5 [(4, .int v8), (0, .ref (dad g p0)), (1, .ref (dad g p1)), (2, .ref (dad g p2))] → W p l e (headSpec wsX4_send (dRm 4 91)).room s mth (([.ref (dad g p0), .ref (dad g p1), .ref (dad g p2), .int p3] : List Value).toArray) below meth c H locs 0 0 (MQ below (dQV g m0) (([.ref (dad g p0), .ref (dad g p1), .ref (dad g p2), .int p3] : List Value).toArray) s 0 0 (dA g)) (F0 mth 22 ls [])) (K := fun q => (fun (m18 : _) => ∀ (H : Heap) (locs : List Loc) (ls : Array Slot), va_P g.1 vwCl (dws g m18) H → va_S (dA g) s.heap H locs → lv_has ls 5 [(0, .ref (dad g p0)), (1, .ref (dad g p1)), (2, .ref (dad g p2))] → W p l e (headSpec wsX4_send (dRm 4 91)).room s mth (([.ref (dad g p0), .ref (dad g p1), .ref (dad g p2), .int p3] : List Value).toArray) below meth c H locs 0 0 (MQ below (dQV g m0) (([.ref (dad g p0), .ref (dad g p1), .ref (dad g p2), .int p3] : List Value).toArray) s 0 0 (dA g)) (F0 mth 61 ls [])) q) ?_ dFl _ qL7 hqL7 ?_ H locs ls hP hS (lv_sub hl [0, 1, 2, 3] rfl)
  · intro q o h hCL7 hEL7
    obtain ⟨v8, m9⟩ := q
    have h : fX4_send_l22 p0 v8 m9 = some o := h
    intro H locs ls hP hS hl
    have hP : va_P g.1 vwCl (dws g m9) H := hP
    have hl : lv_has ls 5 [(4, .int v8), (0, .ref (dad g p0)), (1, .ref (dad g p1)), (2, .ref (dad g p2))] := hl
    unfold fX4_send_l22 at h
    refine lv_iload S.1 S.2.1 dX4_send_22 (lv_at hl 0 rfl) ?_
    refine lv_aload_n S.1 S.2.1 dX4_send_24 rfl (lv_at hl 1 rfl) ?_
    refine dgf4_7 S in4 hE hP k0 (S.2.2.2.2 (.fieldLink RX4 43 "DrillField$Pairing" "number" "I") (List.mem_of_getElem? (i := 5) rfl)) dX4_send_25 ?_
    refine lv_icmp_ge (tgt := 61) S.1 S.2.1 dX4_send_28 (by decide) (fun cq => ?_) (fun cq => ?_)
    · have h := d_t cq h
      obtain rfl := Option.some.inj h
      exact hEL7 _ rfl H locs ls hP hS (lv_sub hl [1, 2, 3] rfl)
    · have h := d_f cq h
      refine lv_aload_n S.1 S.2.1 dX4_send_31 rfl (lv_at hl 1 rfl) ?_
      refine dgf4_1 S in4 hE hP k0 (S.2.2.2.2 (.fieldLink RX4 16 "DrillField$Pairing" "dotPrices" "[J") (List.mem_of_getElem? (i := 6) rfl)) dX4_send_32 ?_
      refine lv_iload S.1 S.2.1 dX4_send_35 (lv_at hl 0 rfl) ?_
      refine lv_lconst (v := 0) S.1 S.2.1 dX4_send_37 (by decide) ?_
      obtain ⟨hi, h⟩ := d_g h
      refine d_last S hE hP hS dk_165 hi dX4_send_38 (fun H locs hP hS => ?_)
      obtain ⟨m14, em14⟩ : ∃ z : dM, z = d2 m9 165 (Int32.toNatClampNeg (v8)) 0 := ⟨_, rfl⟩
      have h := d_let em14 h
      rw [← em14] at hP
      refine lv_aload_n S.1 S.2.1 dX4_send_39 rfl (lv_at hl 1 rfl) ?_
      refine dgf4_2 S in4 hE hP k0 (S.2.2.2.2 (.fieldLink RX4 20 "DrillField$Pairing" "placePrices" "[J") (List.mem_of_getElem? (i := 7) rfl)) dX4_send_40 ?_
      refine lv_iload S.1 S.2.1 dX4_send_43 (lv_at hl 0 rfl) ?_
      refine lv_lconst (v := 0) S.1 S.2.1 dX4_send_45 (by decide) ?_
      obtain ⟨hi, h⟩ := d_g h
      refine d_last S hE hP hS dk_166 hi dX4_send_46 (fun H locs hP hS => ?_)
      obtain ⟨m15, em15⟩ : ∃ z : dM, z = d2 m14 166 (Int32.toNatClampNeg (v8)) 0 := ⟨_, rfl⟩
      have h := d_let em15 h
      rw [← em15] at hP
      refine lv_aload_n S.1 S.2.1 dX4_send_47 rfl (lv_at hl 1 rfl) ?_
      refine dgf4_5 S in4 hE hP k0 (S.2.2.2.2 (.fieldLink RX4 30 "DrillField$Pairing" "holders" "[I") (List.mem_of_getElem? (i := 8) rfl)) dX4_send_48 ?_
      refine lv_iload S.1 S.2.1 dX4_send_51 (lv_at hl 0 rfl) ?_
      refine lv_iconst (v := (-1)) S.1 S.2.1 dX4_send_53 (by decide) ?_
      obtain ⟨hi, h⟩ := d_g h
      refine d_iast S hE hP hS dk_169 hi dX4_send_54 (fun H locs hP hS => ?_)
      obtain ⟨m16, em16⟩ : ∃ z : dM, z = d1 m15 169 (Int32.toNatClampNeg (v8)) (-1) := ⟨_, rfl⟩
      have h := d_let em16 h
      rw [← em16] at hP
      obtain ⟨v17, ev17⟩ : ∃ z : Int32, z = v8 + 1 := ⟨_, rfl⟩
      have h := d_let ev17 h
      refine lv_iinc (v := v17) (lv' := [(4, .int v17), (0, .ref (dad g p0)), (1, .ref (dad g p1)), (2, .ref (dad g p2))]) S.1 S.2.1 dX4_send_55 hl (k := 0) rfl (by rw [ev17]; rfl) (by decide) rfl (fun ls hl => ?_)
      refine lv_goto (tgt := 22) S.1 S.2.1 dX4_send_58 (by decide) ?_
      obtain rfl := Option.some.inj h
      exact hCL7 _ rfl H locs ls hP hS (lv_sub hl [0, 1, 2, 3] rfl)
  · obtain ⟨m18, rfl⟩ : ∃ z, z = qL7 := ⟨_, rfl⟩
    have h := d_p1 h
    intro H locs ls hP hS hl
    have hP : va_P g.1 vwCl (dws g m18) H := hP
    have hl : lv_has ls 5 [(0, .ref (dad g p0)), (1, .ref (dad g p1)), (2, .ref (dad g p2))] := hl
    refine lv_iconst (v := 0) S.1 S.2.1 dX4_send_61 (by decide) ?_
    refine lv_istore (lv' := [(4, .int 0), (0, .ref (dad g p0)), (1, .ref (dad g p1)), (2, .ref (dad g p2))]) S.1 S.2.1 dX4_send_62 hl (by decide) rfl (fun ls hl => ?_)
    obtain ⟨qL19, hqL19, h⟩ := d_b h
    refine d_lp (Hd := fun q => match q with | (v20, m21) => ∀ (H : Heap) (locs : List Loc) (ls : Array Slot), va_P g.1 vwCl (dws g m21) H → va_S (dA g) s.heap H locs → lv_has ls 5 [(4, .int v20), (0, .ref (dad g p0)), (1, .ref (dad g p1)), (2, .ref (dad g p2))] → W p l e (headSpec wsX4_send (dRm 4 91)).room s mth (([.ref (dad g p0), .ref (dad g p1), .ref (dad g p2), .int p3] : List Value).toArray) below meth c H locs 0 0 (MQ below (dQV g m0) (([.ref (dad g p0), .ref (dad g p1), .ref (dad g p2), .int p3] : List Value).toArray) s 0 0 (dA g)) (F0 mth 64 ls [])) (K := fun q => (fun (m28 : _) => ∀ (H : Heap) (locs : List Loc) (ls : Array Slot), va_P g.1 vwCl (dws g m28) H → va_S (dA g) s.heap H locs → lv_has ls 5 [(0, .ref (dad g p0)), (1, .ref (dad g p1)), (2, .ref (dad g p2))] → W p l e (headSpec wsX4_send (dRm 4 91)).room s mth (([.ref (dad g p0), .ref (dad g p1), .ref (dad g p2), .int p3] : List Value).toArray) below meth c H locs 0 0 (MQ below (dQV g m0) (([.ref (dad g p0), .ref (dad g p1), .ref (dad g p2), .int p3] : List Value).toArray) s 0 0 (dA g)) (F0 mth 85 ls [])) q) ?_ dFl _ qL19 hqL19 ?_ H locs ls hP hS (lv_sub hl [0, 1, 2, 3] rfl)
    · intro q o h hCL19 hEL19
      obtain ⟨v20, m21⟩ := q
      have h : fX4_send_l64 p0 v20 m21 = some o := h
      intro H locs ls hP hS hl
      have hP : va_P g.1 vwCl (dws g m21) H := hP
      have hl : lv_has ls 5 [(4, .int v20), (0, .ref (dad g p0)), (1, .ref (dad g p1)), (2, .ref (dad g p2))] := hl
      unfold fX4_send_l64 at h
      refine lv_iload S.1 S.2.1 dX4_send_64 (lv_at hl 0 rfl) ?_
      refine lv_aload_n S.1 S.2.1 dX4_send_66 rfl (lv_at hl 1 rfl) ?_
      refine dgf4_7 S in4 hE hP k0 (S.2.2.2.2 (.fieldLink RX4 43 "DrillField$Pairing" "number" "I") (List.mem_of_getElem? (i := 5) rfl)) dX4_send_67 ?_
      refine lv_icmp_ge (tgt := 85) S.1 S.2.1 dX4_send_70 (by decide) (fun cq => ?_) (fun cq => ?_)
      · have h := d_t cq h
        obtain rfl := Option.some.inj h
        exact hEL19 _ rfl H locs ls hP hS (lv_sub hl [1, 2, 3] rfl)
      · have h := d_f cq h
        refine lv_aload_n S.1 S.2.1 dX4_send_73 rfl (lv_at hl 1 rfl) ?_
        refine lv_iload S.1 S.2.1 dX4_send_74 (lv_at hl 0 rfl) ?_
        obtain ⟨m26, hc25, h⟩ := d_b h
        refine drv (va_runV (As := [.int v20]) (rest := []) S (kX4_bringIn l g hc25) (cwV 1 S.2.2.2.2 gX4_send_X4_bringIn rfl rfl rfl ynX4_bringIn ⟨Nat.le_of_ble_eq_true rfl, Nat.le_of_ble_eq_true rfl⟩) (dpV hE hP hS (ci := 4) rfl (dat5 k0)) rfl rfl hl.1 rfl (lv_room (Nat.le_of_ble_eq_true rfl)) dX4_send_76 ⟨Nat.le_of_ble_eq_true rfl, Nat.le_of_ble_eq_true rfl⟩) hS (fun H locs hP hS => ?_)
        obtain ⟨v27, ev27⟩ : ∃ z : Int32, z = v20 + 1 := ⟨_, rfl⟩
        have h := d_let ev27 h
        refine lv_iinc (v := v27) (lv' := [(4, .int v27), (0, .ref (dad g p0)), (1, .ref (dad g p1)), (2, .ref (dad g p2))]) S.1 S.2.1 dX4_send_79 hl (k := 0) rfl (by rw [ev27]; rfl) (by decide) rfl (fun ls hl => ?_)
        refine lv_goto (tgt := 64) S.1 S.2.1 dX4_send_82 (by decide) ?_
        obtain rfl := Option.some.inj h
        exact hCL19 _ rfl H locs ls hP hS (lv_sub hl [0, 1, 2, 3] rfl)
    · obtain ⟨m28, rfl⟩ : ∃ z, z = qL19 := ⟨_, rfl⟩
      have h := d_p1 h
      intro H locs ls hP hS hl
      have hP : va_P g.1 vwCl (dws g m28) H := hP
      have hl : lv_has ls 5 [(0, .ref (dad g p0)), (1, .ref (dad g p1)), (2, .ref (dad g p2))] := hl
      refine lv_iconst (v := 0) S.1 S.2.1 dX4_send_85 (by decide) ?_
      refine lv_istore (lv' := [(4, .int 0), (0, .ref (dad g p0)), (1, .ref (dad g p1)), (2, .ref (dad g p2))]) S.1 S.2.1 dX4_send_86 hl (by decide) rfl (fun ls hl => ?_)
      obtain ⟨qL29, hqL29, h⟩ := d_b h
      refine d_lp (Hd := fun q => match q with | (v30, m31) => ∀ (H : Heap) (locs : List Loc) (ls : Array Slot), va_P g.1 vwCl (dws g m31) H → va_S (dA g) s.heap H locs → lv_has ls 5 [(4, .int v30), (0, .ref (dad g p0)), (1, .ref (dad g p1)), (2, .ref (dad g p2))] → W p l e (headSpec wsX4_send (dRm 4 91)).room s mth (([.ref (dad g p0), .ref (dad g p1), .ref (dad g p2), .int p3] : List Value).toArray) below meth c H locs 0 0 (MQ below (dQV g m0) (([.ref (dad g p0), .ref (dad g p1), .ref (dad g p2), .int p3] : List Value).toArray) s 0 0 (dA g)) (F0 mth 88 ls [])) (K := fun q => (fun (m38 : _) => ∀ (H : Heap) (locs : List Loc) (ls : Array Slot), va_P g.1 vwCl (dws g m38) H → va_S (dA g) s.heap H locs → lv_has ls 5 [] → W p l e (headSpec wsX4_send (dRm 4 91)).room s mth (([.ref (dad g p0), .ref (dad g p1), .ref (dad g p2), .int p3] : List Value).toArray) below meth c H locs 0 0 (MQ below (dQV g m0) (([.ref (dad g p0), .ref (dad g p1), .ref (dad g p2), .int p3] : List Value).toArray) s 0 0 (dA g)) (F0 mth 117 ls [])) q) ?_ dFl _ qL29 hqL29 ?_ H locs ls hP hS (lv_sub hl [0, 1, 2, 3] rfl)
      · intro q o h hCL29 hEL29
        obtain ⟨v30, m31⟩ := q
        have h : fX4_send_l88 p0 p1 p2 v30 m31 = some o := h
        intro H locs ls hP hS hl
        have hP : va_P g.1 vwCl (dws g m31) H := hP
        have hl : lv_has ls 5 [(4, .int v30), (0, .ref (dad g p0)), (1, .ref (dad g p1)), (2, .ref (dad g p2))] := hl
        unfold fX4_send_l88 at h
        refine lv_iload S.1 S.2.1 dX4_send_88 (lv_at hl 0 rfl) ?_
        refine lv_aload_n S.1 S.2.1 dX4_send_90 rfl (lv_at hl 1 rfl) ?_
        refine dgf4_7 S in4 hE hP k0 (S.2.2.2.2 (.fieldLink RX4 43 "DrillField$Pairing" "number" "I") (List.mem_of_getElem? (i := 5) rfl)) dX4_send_91 ?_
        refine lv_icmp_ge (tgt := 117) S.1 S.2.1 dX4_send_94 (by decide) (fun cq => ?_) (fun cq => ?_)
        · have h := d_t cq h
          obtain rfl := Option.some.inj h
          exact hEL29 _ rfl H locs ls hP hS (lv_sub hl [] rfl)
        · have h := d_f cq h
          refine lv_aload_n S.1 S.2.1 dX4_send_97 rfl (lv_at hl 2 rfl) ?_
          refine lv_aload_n S.1 S.2.1 dX4_send_98 rfl (lv_at hl 1 rfl) ?_
          refine dgf4_5 S in4 hE hP k0 (S.2.2.2.2 (.fieldLink RX4 30 "DrillField$Pairing" "holders" "[I") (List.mem_of_getElem? (i := 8) rfl)) dX4_send_99 ?_
          refine lv_iload S.1 S.2.1 dX4_send_102 (lv_at hl 0 rfl) ?_
          obtain ⟨hi, h⟩ := d_g h
          refine d_iald S hE hP dk_169 hi dX4_send_104 ?_
          refine lv_iload S.1 S.2.1 dX4_send_105 (lv_at hl 0 rfl) ?_
          refine lv_aload_n S.1 S.2.1 dX4_send_107 rfl (lv_at hl 3 rfl) ?_
          obtain ⟨m36, hc35, h⟩ := d_b h
          refine drv (va_runV (As := [.int (m31.1 169 (Int32.toNatClampNeg (v30))), .int v30, .ref (dad g p2)]) (rest := []) S (kX5_send l g hc35) (cwV 3 S.2.2.2.2 gX4_send_X5_send rfl rfl rfl ynX5_send ⟨Nat.le_of_ble_eq_true rfl, Nat.le_of_ble_eq_true rfl⟩) (dpV hE hP hS (ci := 5) rfl (dat6 k1)) rfl rfl hl.1 rfl (lv_room (Nat.le_of_ble_eq_true rfl)) dX4_send_108 ⟨Nat.le_of_ble_eq_true rfl, Nat.le_of_ble_eq_true rfl⟩) hS (fun H locs hP hS => ?_)
          obtain ⟨v37, ev37⟩ : ∃ z : Int32, z = v30 + 1 := ⟨_, rfl⟩
          have h := d_let ev37 h
          refine lv_iinc (v := v37) (lv' := [(4, .int v37), (0, .ref (dad g p0)), (1, .ref (dad g p1)), (2, .ref (dad g p2))]) S.1 S.2.1 dX4_send_111 hl (k := 0) rfl (by rw [ev37]; rfl) (by decide) rfl (fun ls hl => ?_)
          refine lv_goto (tgt := 88) S.1 S.2.1 dX4_send_114 (by decide) ?_
          obtain rfl := Option.some.inj h
          exact hCL29 _ rfl H locs ls hP hS (lv_sub hl [0, 1, 2, 3] rfl)
      · obtain ⟨m38, rfl⟩ : ∃ z, z = qL29 := ⟨_, rfl⟩
        have h := d_p1 h
        intro H locs ls hP hS hl
        have hP : va_P g.1 vwCl (dws g m38) H := hP
        have hl : lv_has ls 5 [] := hl
        obtain rfl := Option.some.inj h
        exact dtv S hr hlk hE hP hS dX4_send_117
set_option maxRecDepth 20000 in
theorem ggX8_sendKept_X5_send : GoodIn wsX8_sendKept wsX5_send := goodIn_r _ [5, 6, 7, 8, 9, 10, 11, 12, 13, 14, 15, 16, 17, 18, 19, 20, 21, 22, 23, 24, 25, 26, 27, 28, 29, 30, 31, 32, 33, 34] (by decide +kernel) (by decide +kernel)
set_option maxRecDepth 20000 in
theorem gX8_sendKept_X5_send : GoodIn wsX8_sendKept (wsV RX8 86 RX5 yX5_send wsX5_send) := goodIn_app (goodIn_of _ (by decide +kernel)) ggX8_sendKept_X5_send
theorem dX8_sendKept_0 : decode cX8_sendKept 0 = .ok (.iconst 0, 1) := by decide +kernel
theorem dX8_sendKept_1 : decode cX8_sendKept 1 = .ok (.istore_n 3, 1) := by decide +kernel
theorem dX8_sendKept_2 : decode cX8_sendKept 2 = .ok (.iload_n 3, 1) := by decide +kernel
theorem dX8_sendKept_3 : decode cX8_sendKept 3 = .ok (.iload_n 2, 1) := by decide +kernel
theorem dX8_sendKept_4 : decode cX8_sendKept 4 = .ok (.if_icmp .ge 16, 3) := by decide +kernel
theorem dX8_sendKept_7 : decode cX8_sendKept 7 = .ok (.aload_n 0, 1) := by decide +kernel
theorem dX8_sendKept_8 : decode cX8_sendKept 8 = .ok (.iload_n 3, 1) := by decide +kernel
theorem dX8_sendKept_9 : decode cX8_sendKept 9 = .ok (.iload_n 3, 1) := by decide +kernel
theorem dX8_sendKept_10 : decode cX8_sendKept 10 = .ok (.aload_n 1, 1) := by decide +kernel
theorem dX8_sendKept_11 : decode cX8_sendKept 11 = .ok (.invokevirtual 86, 3) := by decide +kernel
theorem dX8_sendKept_14 : decode cX8_sendKept 14 = .ok (.iinc 3 1, 3) := by decide +kernel
theorem dX8_sendKept_17 : decode cX8_sendKept 17 = .ok (.goto (-15), 3) := by decide +kernel
theorem dX8_sendKept_20 : decode cX8_sendKept 20 = .ok (.return_, 1) := by decide +kernel
def fX8_sendKept_l2 (p0 : Nat) (p1 : Nat) (p2 : Int32) (v2 : Int32) (m3 : dM) : Option ((Int32 × dM) ⊕ dM) := if p2 ≤ v2 then some (.inr m3) else (fX5_send m3 p0 v2 v2 p1).bind (fun m8 => dlet (v2 + 1 : Int32) (fun v9 => some (.inl (v9, m8))))
def fX8_sendKept (m : dM) (p0 : Nat) (p1 : Nat) (p2 : Int32) : Option dM := dg (dkg p0 6) (dg (dkg p1 10) ((dlp (fun q => dP2 q (fun v2 m3 => fX8_sendKept_l2 p0 p1 p2 v2 m3)) dFl (0, m)).bind (fun q => dP1 q (fun m10 => some m10))))
set_option maxHeartbeats 4000000 in
set_option maxRecDepth 100000 in
theorem kX8_sendKept (l : Launch) (g : dG) {m : dM} {p0 : Nat} {p1 : Nat} {p2 : Int32} {m0 : dM} (h : fX8_sendKept m p0 p1 p2 = some m0) : dMet l g yX8_sendKept wsX8_sendKept (dRm 3 66) [.ref (dad g p0), .ref (dad g p1), .int p2] m (dQV g m0) := by
  refine dof (cc := cX8_sendKept) (maxL := 4) (ret := none) _ (plainFor_of_name (by decide)) rfl (Nat.le_of_ble_eq_true rfl) ?_
  intro p e s mth below meth c S hr hlk hE H ls hP hS hl
  have S : CallFix p mth c cX8_sendKept 4 s _ wsX8_sendKept RX8 := S
  have hl : lv_has ls 4 [(0, .ref (dad g p0)), (1, .ref (dad g p1)), (2, .int p2)] := hl
  obtain ⟨locs, hlocs⟩ : ∃ z : List Loc, z = [] := ⟨_, rfl⟩
  rw [← hlocs] at hS ⊢
  unfold fX8_sendKept at h
  obtain ⟨k0, h⟩ := d_g h
  have k0 := d_k k0
  obtain ⟨k1, h⟩ := d_g h
  have k1 := d_k k1
  refine lv_iconst (v := 0) S.1 S.2.1 dX8_sendKept_0 (by decide) ?_
  refine lv_istore_n (lv' := [(3, .int 0), (0, .ref (dad g p0)), (1, .ref (dad g p1)), (2, .int p2)]) S.1 S.2.1 dX8_sendKept_1 rfl hl (by decide) rfl (fun ls hl => ?_)
  obtain ⟨qL1, hqL1, h⟩ := d_b h
  refine d_lp (Hd := fun q => match q with | (v2, m3) => ∀ (H : Heap) (locs : List Loc) (ls : Array Slot), va_P g.1 vwCl (dws g m3) H → va_S (dA g) s.heap H locs → lv_has ls 4 [(3, .int v2), (0, .ref (dad g p0)), (1, .ref (dad g p1)), (2, .int p2)] → W p l e (headSpec wsX8_sendKept (dRm 3 66)).room s mth (([.ref (dad g p0), .ref (dad g p1), .int p2] : List Value).toArray) below meth c H locs 0 0 (MQ below (dQV g m0) (([.ref (dad g p0), .ref (dad g p1), .int p2] : List Value).toArray) s 0 0 (dA g)) (F0 mth 2 ls [])) (K := fun q => (fun (m10 : _) => ∀ (H : Heap) (locs : List Loc) (ls : Array Slot), va_P g.1 vwCl (dws g m10) H → va_S (dA g) s.heap H locs → lv_has ls 4 [] → W p l e (headSpec wsX8_sendKept (dRm 3 66)).room s mth (([.ref (dad g p0), .ref (dad g p1), .int p2] : List Value).toArray) below meth c H locs 0 0 (MQ below (dQV g m0) (([.ref (dad g p0), .ref (dad g p1), .int p2] : List Value).toArray) s 0 0 (dA g)) (F0 mth 20 ls [])) q) ?_ dFl _ qL1 hqL1 ?_ H locs ls hP hS (lv_sub hl [0, 1, 2, 3] rfl)
  · intro q o h hCL1 hEL1
    obtain ⟨v2, m3⟩ := q
    have h : fX8_sendKept_l2 p0 p1 p2 v2 m3 = some o := h
    intro H locs ls hP hS hl
    have hP : va_P g.1 vwCl (dws g m3) H := hP
    have hl : lv_has ls 4 [(3, .int v2), (0, .ref (dad g p0)), (1, .ref (dad g p1)), (2, .int p2)] := hl
    unfold fX8_sendKept_l2 at h
    refine lv_iload_n S.1 S.2.1 dX8_sendKept_2 rfl (lv_at hl 0 rfl) ?_
    refine lv_iload_n S.1 S.2.1 dX8_sendKept_3 rfl (lv_at hl 3 rfl) ?_
    refine lv_icmp_ge (tgt := 20) S.1 S.2.1 dX8_sendKept_4 (by decide) (fun cq => ?_) (fun cq => ?_)
    · have h := d_t cq h
      obtain rfl := Option.some.inj h
      exact hEL1 _ rfl H locs ls hP hS (lv_sub hl [] rfl)
    · have h := d_f cq h
      refine lv_aload_n S.1 S.2.1 dX8_sendKept_7 rfl (lv_at hl 1 rfl) ?_
      refine lv_iload_n S.1 S.2.1 dX8_sendKept_8 rfl (lv_at hl 0 rfl) ?_
      refine lv_iload_n S.1 S.2.1 dX8_sendKept_9 rfl (lv_at hl 0 rfl) ?_
      refine lv_aload_n S.1 S.2.1 dX8_sendKept_10 rfl (lv_at hl 2 rfl) ?_
      obtain ⟨m8, hc7, h⟩ := d_b h
      refine drv (va_runV (As := [.int v2, .int v2, .ref (dad g p1)]) (rest := []) S (kX5_send l g hc7) (cwV 3 S.2.2.2.2 gX8_sendKept_X5_send rfl rfl rfl ynX5_send ⟨Nat.le_of_ble_eq_true rfl, Nat.le_of_ble_eq_true rfl⟩) (dpV hE hP hS (ci := 5) rfl (dat6 k0)) rfl rfl hl.1 rfl (lv_room (Nat.le_of_ble_eq_true rfl)) dX8_sendKept_11 ⟨Nat.le_of_ble_eq_true rfl, Nat.le_of_ble_eq_true rfl⟩) hS (fun H locs hP hS => ?_)
      obtain ⟨v9, ev9⟩ : ∃ z : Int32, z = v2 + 1 := ⟨_, rfl⟩
      have h := d_let ev9 h
      refine lv_iinc (v := v9) (lv' := [(3, .int v9), (0, .ref (dad g p0)), (1, .ref (dad g p1)), (2, .int p2)]) S.1 S.2.1 dX8_sendKept_14 hl (k := 0) rfl (by rw [ev9]; rfl) (by decide) rfl (fun ls hl => ?_)
      refine lv_goto (tgt := 2) S.1 S.2.1 dX8_sendKept_17 (by decide) ?_
      obtain rfl := Option.some.inj h
      exact hCL1 _ rfl H locs ls hP hS (lv_sub hl [0, 1, 2, 3] rfl)
  · obtain ⟨m10, rfl⟩ : ∃ z, z = qL1 := ⟨_, rfl⟩
    have h := d_p1 h
    intro H locs ls hP hS hl
    have hP : va_P g.1 vwCl (dws g m10) H := hP
    have hl : lv_has ls 4 [] := hl
    obtain rfl := Option.some.inj h
    exact dtv S hr hlk hE hP hS dX8_sendKept_20
set_option maxRecDepth 20000 in
theorem ggX8_findFrom_X8_numbered : GoodIn wsX8_findFrom wsX8_numbered := goodIn_r _ [7, 8, 9, 10, 11, 12, 129, 130, 131, 132] (by decide +kernel) (by decide +kernel)
set_option maxRecDepth 20000 in
theorem gX8_findFrom_X8_numbered : GoodIn wsX8_findFrom (wsV RX8 46 RX8 yX8_numbered wsX8_numbered) := goodIn_app (goodIn_of _ (by decide +kernel)) ggX8_findFrom_X8_numbered
set_option maxRecDepth 20000 in
theorem ggX8_findFrom_X5_set : GoodIn wsX8_findFrom wsX5_set := goodIn_r _ [17, 18, 133, 134, 135, 136, 137, 138, 139] (by decide +kernel) (by decide +kernel)
set_option maxRecDepth 20000 in
theorem gX8_findFrom_X5_set : GoodIn wsX8_findFrom (wsV RX8 50 RX5 yX5_set wsX5_set) := goodIn_app (goodIn_of _ (by decide +kernel)) ggX8_findFrom_X5_set
set_option maxRecDepth 20000 in
theorem ggX8_findFrom_X7_numbered : GoodIn wsX8_findFrom wsX7_numbered := goodIn_r _ [23, 24, 25, 10, 11, 12, 140, 141, 142] (by decide +kernel) (by decide +kernel)
set_option maxRecDepth 20000 in
theorem gX8_findFrom_X7_numbered : GoodIn wsX8_findFrom (wsV RX8 54 RX7 yX7_numbered wsX7_numbered) := goodIn_app (goodIn_of _ (by decide +kernel)) ggX8_findFrom_X7_numbered
set_option maxRecDepth 20000 in
theorem ggX8_findFrom_X5_starts : GoodIn wsX8_findFrom wsX5_starts := goodIn_r _ [29, 30, 133, 134, 135, 136, 137, 138, 139] (by decide +kernel) (by decide +kernel)
set_option maxRecDepth 20000 in
theorem gX8_findFrom_X5_starts : GoodIn wsX8_findFrom (wsV RX8 59 RX5 yX5_starts wsX5_starts) := goodIn_app (goodIn_of _ (by decide +kernel)) ggX8_findFrom_X5_starts
set_option maxRecDepth 20000 in
theorem ggX8_findFrom_X5_ends : GoodIn wsX8_findFrom wsX5_ends := goodIn_r _ [34, 35, 133, 134, 135, 136, 137, 138, 139] (by decide +kernel) (by decide +kernel)
set_option maxRecDepth 20000 in
theorem gX8_findFrom_X5_ends : GoodIn wsX8_findFrom (wsV RX8 63 RX5 yX5_ends wsX5_ends) := goodIn_app (goodIn_of _ (by decide +kernel)) ggX8_findFrom_X5_ends
set_option maxRecDepth 20000 in
theorem ggX8_findFrom_X9_copy : GoodIn wsX8_findFrom wsX9_copy := goodIn_r _ [40, 41, 42, 43, 39, 44, 45, 46, 11, 47, 48, 49, 50, 51, 52, 53, 54, 55, 56, 143, 144] (by decide +kernel) (by decide +kernel)
set_option maxRecDepth 20000 in
theorem gX8_findFrom_X9_copy : GoodIn wsX8_findFrom (wsV RX8 66 RX9 yX9_copy wsX9_copy) := goodIn_app (goodIn_of _ (by decide +kernel)) ggX8_findFrom_X9_copy
set_option maxRecDepth 20000 in
theorem ggX8_findFrom_X5_isLeast : GoodIn wsX8_findFrom wsX5_isLeast := goodIn_r _ [60, 61, 133, 134, 135, 136, 137, 138, 139] (by decide +kernel) (by decide +kernel)
set_option maxRecDepth 20000 in
theorem gX8_findFrom_X5_isLeast : GoodIn wsX8_findFrom (wsV RX8 72 RX5 yX5_isLeast wsX5_isLeast) := goodIn_app (goodIn_of _ (by decide +kernel)) ggX8_findFrom_X5_isLeast
set_option maxRecDepth 20000 in
theorem ggX8_findFrom_X4_send : GoodIn wsX8_findFrom wsX4_send := goodIn_r _ [66, 67, 68, 69, 70, 71, 72, 73, 74, 75, 27, 28, 16, 29, 30, 76, 77, 78, 65, 79, 80, 81, 82, 83, 84, 85, 39, 86, 45, 52, 46, 11, 47, 87, 88, 89, 90, 91, 92, 93, 94, 95, 96, 97, 98, 99, 100, 101, 102, 103, 104, 105, 106, 107, 108, 109, 110, 111, 112, 113, 114, 115, 116, 117, 118, 119, 120, 121, 35, 122, 42, 43, 44, 123, 49, 50, 51, 124, 54, 55, 56, 145, 146, 147, 148, 149, 150, 151, 152, 133, 134, 135, 136, 137, 138, 139, 143, 144] (by decide +kernel) (by decide +kernel)
set_option maxRecDepth 20000 in
theorem gX8_findFrom_X4_send : GoodIn wsX8_findFrom (wsV RX8 76 RX4 yX4_send wsX4_send) := goodIn_app (goodIn_of _ (by decide +kernel)) ggX8_findFrom_X4_send
set_option maxRecDepth 20000 in
theorem ggX8_findFrom_X8_sendKept : GoodIn wsX8_findFrom wsX8_sendKept := goodIn_r _ [127, 128, 118, 119, 16, 120, 121, 35, 46, 11, 47, 122, 42, 43, 39, 44, 45, 123, 49, 50, 51, 52, 124, 54, 55, 56, 133, 134, 135, 136, 137, 138, 139, 143, 144] (by decide +kernel) (by decide +kernel)
set_option maxRecDepth 20000 in
theorem gX8_findFrom_X8_sendKept : GoodIn wsX8_findFrom (va_wsS RX8 80 yX8_sendKept wsX8_sendKept) := goodIn_app (goodIn_of _ (by decide +kernel)) ggX8_findFrom_X8_sendKept
theorem dX8_findFrom_0 : decode cX8_findFrom 0 = .ok (.iload_n 1, 1) := by decide +kernel
theorem dX8_findFrom_1 : decode cX8_findFrom 1 = .ok (.istore 4, 2) := by decide +kernel
theorem dX8_findFrom_3 : decode cX8_findFrom 3 = .ok (.iload 4, 2) := by decide +kernel
theorem dX8_findFrom_5 : decode cX8_findFrom 5 = .ok (.aload_n 0, 1) := by decide +kernel
theorem dX8_findFrom_6 : decode cX8_findFrom 6 = .ok (.getfield 29, 3) := by decide +kernel
theorem dX8_findFrom_9 : decode cX8_findFrom 9 = .ok (.if_icmp .ge 93, 3) := by decide +kernel
theorem dX8_findFrom_12 : decode cX8_findFrom 12 = .ok (.aload_n 0, 1) := by decide +kernel
theorem dX8_findFrom_13 : decode cX8_findFrom 13 = .ok (.iload 4, 2) := by decide +kernel
theorem dX8_findFrom_15 : decode cX8_findFrom 15 = .ok (.invokevirtual 46, 3) := by decide +kernel
theorem dX8_findFrom_18 : decode cX8_findFrom 18 = .ok (.astore 5, 2) := by decide +kernel
theorem dX8_findFrom_20 : decode cX8_findFrom 20 = .ok (.aload_n 2, 1) := by decide +kernel
theorem dX8_findFrom_21 : decode cX8_findFrom 21 = .ok (.aload 5, 2) := by decide +kernel
theorem dX8_findFrom_23 : decode cX8_findFrom 23 = .ok (.invokevirtual 50, 3) := by decide +kernel
theorem dX8_findFrom_26 : decode cX8_findFrom 26 = .ok (.invokevirtual 54, 3) := by decide +kernel
theorem dX8_findFrom_29 : decode cX8_findFrom 29 = .ok (.astore 6, 2) := by decide +kernel
theorem dX8_findFrom_31 : decode cX8_findFrom 31 = .ok (.aload 5, 2) := by decide +kernel
theorem dX8_findFrom_33 : decode cX8_findFrom 33 = .ok (.invokevirtual 59, 3) := by decide +kernel
theorem dX8_findFrom_36 : decode cX8_findFrom 36 = .ok (.iload 4, 2) := by decide +kernel
theorem dX8_findFrom_38 : decode cX8_findFrom 38 = .ok (.ifCond .ne 8, 3) := by decide +kernel
theorem dX8_findFrom_41 : decode cX8_findFrom 41 = .ok (.aload 6, 2) := by decide +kernel
theorem dX8_findFrom_43 : decode cX8_findFrom 43 = .ok (.goto 14, 3) := by decide +kernel
theorem dX8_findFrom_46 : decode cX8_findFrom 46 = .ok (.aload_n 0, 1) := by decide +kernel
theorem dX8_findFrom_47 : decode cX8_findFrom 47 = .ok (.iload 4, 2) := by decide +kernel
theorem dX8_findFrom_49 : decode cX8_findFrom 49 = .ok (.iconst 1, 1) := by decide +kernel
theorem dX8_findFrom_50 : decode cX8_findFrom 50 = .ok (.isub, 1) := by decide +kernel
theorem dX8_findFrom_51 : decode cX8_findFrom 51 = .ok (.invokevirtual 46, 3) := by decide +kernel
theorem dX8_findFrom_54 : decode cX8_findFrom 54 = .ok (.invokevirtual 63, 3) := by decide +kernel
theorem dX8_findFrom_57 : decode cX8_findFrom 57 = .ok (.invokevirtual 66, 3) := by decide +kernel
theorem dX8_findFrom_60 : decode cX8_findFrom 60 = .ok (.iload 4, 2) := by decide +kernel
theorem dX8_findFrom_62 : decode cX8_findFrom 62 = .ok (.ifCond .le 26, 3) := by decide +kernel
theorem dX8_findFrom_65 : decode cX8_findFrom 65 = .ok (.aload 5, 2) := by decide +kernel
theorem dX8_findFrom_67 : decode cX8_findFrom 67 = .ok (.invokevirtual 72, 3) := by decide +kernel
theorem dX8_findFrom_70 : decode cX8_findFrom 70 = .ok (.ifCond .eq 18, 3) := by decide +kernel
theorem dX8_findFrom_73 : decode cX8_findFrom 73 = .ok (.aload_n 0, 1) := by decide +kernel
theorem dX8_findFrom_74 : decode cX8_findFrom 74 = .ok (.getfield 25, 3) := by decide +kernel
theorem dX8_findFrom_77 : decode cX8_findFrom 77 = .ok (.aload 5, 2) := by decide +kernel
theorem dX8_findFrom_79 : decode cX8_findFrom 79 = .ok (.aload 6, 2) := by decide +kernel
theorem dX8_findFrom_81 : decode cX8_findFrom 81 = .ok (.iload_n 3, 1) := by decide +kernel
theorem dX8_findFrom_82 : decode cX8_findFrom 82 = .ok (.invokevirtual 76, 3) := by decide +kernel
theorem dX8_findFrom_85 : decode cX8_findFrom 85 = .ok (.goto 11, 3) := by decide +kernel
theorem dX8_findFrom_88 : decode cX8_findFrom 88 = .ok (.aload 5, 2) := by decide +kernel
theorem dX8_findFrom_90 : decode cX8_findFrom 90 = .ok (.aload 6, 2) := by decide +kernel
theorem dX8_findFrom_92 : decode cX8_findFrom 92 = .ok (.iload_n 3, 1) := by decide +kernel
theorem dX8_findFrom_93 : decode cX8_findFrom 93 = .ok (.invokestatic 80, 3) := by decide +kernel
theorem dX8_findFrom_96 : decode cX8_findFrom 96 = .ok (.iinc 4 1, 3) := by decide +kernel
theorem dX8_findFrom_99 : decode cX8_findFrom 99 = .ok (.goto (-96), 3) := by decide +kernel
theorem dX8_findFrom_102 : decode cX8_findFrom 102 = .ok (.return_, 1) := by decide +kernel
def fX8_findFrom_l3 (p0 : Nat) (p2 : Nat) (p3 : Int32) (v2 : Int32) (m3 : dM) : Option ((Int32 × dM) ⊕ dM) := if (m3.1 p0 3) ≤ v2 then some (.inr m3) else (fX8_numbered m3 p0 v2).bind (fun v48 => dg (dkg v48 6) ((fX5_set m3 v48).bind (fun v51 => (fX7_numbered m3 p2 v51).bind (fun v53 => dg (dkg v53 10) ((fX5_starts m3 v48).bind (fun v56 => dg (dkg v56 10) (if v2 = 0 then (fX9_copy m3 v56 v53).bind (fun m78 => if v2 ≤ 0 then (fX8_sendKept m78 v48 v53 p3).bind (fun m80 => dlet (v2 + 1 : Int32) (fun v81 => some (.inl (v81, m80)))) else (fX5_isLeast m78 v48).bind (fun v83 => if v83 = 0 then (fX8_sendKept m78 v48 v53 p3).bind (fun m85 => dlet (v2 + 1 : Int32) (fun v86 => some (.inl (v86, m85)))) else (fX4_send m78 153 v48 v53 p3).bind (fun m88 => dlet (v2 + 1 : Int32) (fun v89 => some (.inl (v89, m88)))))) else (fX8_numbered m3 p0 (v2 - 1)).bind (fun v59 => dg (dkg v59 6) ((fX5_ends m3 v59).bind (fun v62 => dg (dkg v62 10) ((fX9_copy m3 v56 v62).bind (fun m65 => if v2 ≤ 0 then (fX8_sendKept m65 v48 v53 p3).bind (fun m67 => dlet (v2 + 1 : Int32) (fun v68 => some (.inl (v68, m67)))) else (fX5_isLeast m65 v48).bind (fun v70 => if v70 = 0 then (fX8_sendKept m65 v48 v53 p3).bind (fun m72 => dlet (v2 + 1 : Int32) (fun v73 => some (.inl (v73, m72)))) else (fX4_send m65 153 v48 v53 p3).bind (fun m75 => dlet (v2 + 1 : Int32) (fun v76 => some (.inl (v76, m75)))))))))))))))))
def fX8_findFrom (m : dM) (p0 : Nat) (p1 : Int32) (p2 : Nat) (p3 : Int32) : Option dM := dg (dkg p0 9) (dg (dkg p2 8) ((dlp (fun q => dP2 q (fun v2 m3 => fX8_findFrom_l3 p0 p2 p3 v2 m3)) dFl (p1, m)).bind (fun q => dP1 q (fun m90 => some m90))))
set_option maxHeartbeats 4000000 in
set_option maxRecDepth 100000 in
theorem kX8_findFrom (l : Launch) (g : dG) {m : dM} {p0 : Nat} {p1 : Int32} {p2 : Nat} {p3 : Int32} {m0 : dM} (h : fX8_findFrom m p0 p1 p2 p3 = some m0) : dMet l g yX8_findFrom wsX8_findFrom (dRm 5 115) [.ref (dad g p0), .int p1, .ref (dad g p2), .int p3] m (dQV g m0) := by
  refine dof (cc := cX8_findFrom) (maxL := 7) (ret := none) _ (plainFor_of_name (by decide)) rfl (Nat.le_of_ble_eq_true rfl) ?_
  intro p e s mth below meth c S hr hlk hE H ls hP hS hl
  have S : CallFix p mth c cX8_findFrom 7 s _ wsX8_findFrom RX8 := S
  have hl : lv_has ls 7 [(0, .ref (dad g p0)), (1, .int p1), (2, .ref (dad g p2)), (3, .int p3)] := hl
  obtain ⟨locs, hlocs⟩ : ∃ z : List Loc, z = [] := ⟨_, rfl⟩
  rw [← hlocs] at hS ⊢
  have in8 : ∀ w ∈ wsX80, w ∈ wsX8_findFrom := by decide +kernel
  unfold fX8_findFrom at h
  obtain ⟨k0, h⟩ := d_g h
  have k0 := d_k k0
  obtain ⟨k2, h⟩ := d_g h
  have k2 := d_k k2
  refine lv_iload_n S.1 S.2.1 dX8_findFrom_0 rfl (lv_at hl 1 rfl) ?_
  refine lv_istore (lv' := [(4, .int p1), (0, .ref (dad g p0)), (1, .int p1), (2, .ref (dad g p2)), (3, .int p3)]) S.1 S.2.1 dX8_findFrom_1 hl (by decide) rfl (fun ls hl => ?_)
  obtain ⟨qL1, hqL1, h⟩ := d_b h
  refine d_lp (Hd := fun q => match q with | (v2, m3) => ∀ (H : Heap) (locs : List Loc) (ls : Array Slot), va_P g.1 vwCl (dws g m3) H → va_S (dA g) s.heap H locs → lv_has ls 7 [(4, .int v2), (0, .ref (dad g p0)), (2, .ref (dad g p2)), (3, .int p3)] → W p l e (headSpec wsX8_findFrom (dRm 5 115)).room s mth (([.ref (dad g p0), .int p1, .ref (dad g p2), .int p3] : List Value).toArray) below meth c H locs 0 0 (MQ below (dQV g m0) (([.ref (dad g p0), .int p1, .ref (dad g p2), .int p3] : List Value).toArray) s 0 0 (dA g)) (F0 mth 3 ls [])) (K := fun q => (fun (m90 : _) => ∀ (H : Heap) (locs : List Loc) (ls : Array Slot), va_P g.1 vwCl (dws g m90) H → va_S (dA g) s.heap H locs → lv_has ls 7 [] → W p l e (headSpec wsX8_findFrom (dRm 5 115)).room s mth (([.ref (dad g p0), .int p1, .ref (dad g p2), .int p3] : List Value).toArray) below meth c H locs 0 0 (MQ below (dQV g m0) (([.ref (dad g p0), .int p1, .ref (dad g p2), .int p3] : List Value).toArray) s 0 0 (dA g)) (F0 mth 102 ls [])) q) ?_ dFl _ qL1 hqL1 ?_ H locs ls hP hS (lv_sub hl [0, 1, 3, 4] rfl)
  · intro q o h hCL1 hEL1
    obtain ⟨v2, m3⟩ := q
    have h : fX8_findFrom_l3 p0 p2 p3 v2 m3 = some o := h
    intro H locs ls hP hS hl
    have hP : va_P g.1 vwCl (dws g m3) H := hP
    have hl : lv_has ls 7 [(4, .int v2), (0, .ref (dad g p0)), (2, .ref (dad g p2)), (3, .int p3)] := hl
    unfold fX8_findFrom_l3 at h
    refine lv_iload S.1 S.2.1 dX8_findFrom_3 (lv_at hl 0 rfl) ?_
    refine lv_aload_n S.1 S.2.1 dX8_findFrom_5 rfl (lv_at hl 1 rfl) ?_
    refine dgf8_3 S in8 hE hP k0 (S.2.2.2.2 (.fieldLink RX8 29 "DrillField$Show" "number" "I") (List.mem_of_getElem? (i := 1) rfl)) dX8_findFrom_6 ?_
    refine lv_icmp_ge (tgt := 102) S.1 S.2.1 dX8_findFrom_9 (by decide) (fun cq => ?_) (fun cq => ?_)
    · have h := d_t cq h
      obtain rfl := Option.some.inj h
      exact hEL1 _ rfl H locs ls hP hS (lv_sub hl [] rfl)
    · have h := d_f cq h
      refine lv_aload_n S.1 S.2.1 dX8_findFrom_12 rfl (lv_at hl 1 rfl) ?_
      refine lv_iload S.1 S.2.1 dX8_findFrom_13 (lv_at hl 0 rfl) ?_
      obtain ⟨v48, hc47, h⟩ := d_b h
      obtain ⟨hk49, h⟩ := d_g h
      have hk49 := d_k hk49
      refine drr (va_runV (As := [.int v2]) (rest := []) S (kX8_numbered l g hc47) (cwV 1 S.2.2.2.2 gX8_findFrom_X8_numbered rfl rfl rfl ynX8_numbered ⟨Nat.le_of_ble_eq_true rfl, Nat.le_of_ble_eq_true rfl⟩) (dpV hE hP hS (ci := 8) rfl (dat9 k0)) rfl rfl hl.1 rfl (lv_room (Nat.le_of_ble_eq_true rfl)) dX8_findFrom_15 ⟨Nat.le_of_ble_eq_true rfl, Nat.le_of_ble_eq_true rfl⟩) hS (fun H locs hP hS => ?_)
      refine lv_astore (lv' := [(5, .ref (dad g v48)), (4, .int v2), (0, .ref (dad g p0)), (2, .ref (dad g p2)), (3, .int p3)]) S.1 S.2.1 dX8_findFrom_18 hl (by decide) rfl (fun ls hl => ?_)
      refine lv_aload_n S.1 S.2.1 dX8_findFrom_20 rfl (lv_at hl 3 rfl) ?_
      refine lv_aload S.1 S.2.1 dX8_findFrom_21 (lv_at hl 0 rfl) ?_
      obtain ⟨v51, hc50, h⟩ := d_b h
      refine dri (va_runV (As := []) (rest := [.ref (dad g p2)]) S (kX5_set l g hc50) (cwV 0 S.2.2.2.2 gX8_findFrom_X5_set rfl rfl rfl ynX5_set ⟨Nat.le_of_ble_eq_true rfl, Nat.le_of_ble_eq_true rfl⟩) (dpV hE hP hS (ci := 5) rfl (dat6 hk49)) rfl rfl hl.1 rfl (lv_room (Nat.le_of_ble_eq_true rfl)) dX8_findFrom_23 ⟨Nat.le_of_ble_eq_true rfl, Nat.le_of_ble_eq_true rfl⟩) hS (fun H locs hP hS => ?_)
      obtain ⟨v53, hc52, h⟩ := d_b h
      obtain ⟨hk54, h⟩ := d_g h
      have hk54 := d_k hk54
      refine drr (va_runV (As := [.int v51]) (rest := []) S (kX7_numbered l g hc52) (cwV 1 S.2.2.2.2 gX8_findFrom_X7_numbered rfl rfl rfl ynX7_numbered ⟨Nat.le_of_ble_eq_true rfl, Nat.le_of_ble_eq_true rfl⟩) (dpV hE hP hS (ci := 7) rfl (dat8 k2)) rfl rfl hl.1 rfl (lv_room (Nat.le_of_ble_eq_true rfl)) dX8_findFrom_26 ⟨Nat.le_of_ble_eq_true rfl, Nat.le_of_ble_eq_true rfl⟩) hS (fun H locs hP hS => ?_)
      refine lv_astore (lv' := [(6, .ref (dad g v53)), (5, .ref (dad g v48)), (4, .int v2), (0, .ref (dad g p0)), (2, .ref (dad g p2)), (3, .int p3)]) S.1 S.2.1 dX8_findFrom_29 hl (by decide) rfl (fun ls hl => ?_)
      refine lv_aload S.1 S.2.1 dX8_findFrom_31 (lv_at hl 1 rfl) ?_
      obtain ⟨v56, hc55, h⟩ := d_b h
      obtain ⟨hk57, h⟩ := d_g h
      have hk57 := d_k hk57
      refine drr (va_runV (As := []) (rest := []) S (kX5_starts l g hc55) (cwV 0 S.2.2.2.2 gX8_findFrom_X5_starts rfl rfl rfl ynX5_starts ⟨Nat.le_of_ble_eq_true rfl, Nat.le_of_ble_eq_true rfl⟩) (dpV hE hP hS (ci := 5) rfl (dat6 hk49)) rfl rfl hl.1 rfl (lv_room (Nat.le_of_ble_eq_true rfl)) dX8_findFrom_33 ⟨Nat.le_of_ble_eq_true rfl, Nat.le_of_ble_eq_true rfl⟩) hS (fun H locs hP hS => ?_)
      refine lv_iload S.1 S.2.1 dX8_findFrom_36 (lv_at hl 2 rfl) ?_
      refine lv_if_ne (tgt := 46) S.1 S.2.1 dX8_findFrom_38 (by decide) (fun cq => ?_) (fun cq => ?_)
      · have h := d_f cq h
        refine lv_aload_n S.1 S.2.1 dX8_findFrom_46 rfl (lv_at hl 3 rfl) ?_
        refine lv_iload S.1 S.2.1 dX8_findFrom_47 (lv_at hl 2 rfl) ?_
        refine lv_iconst (v := 1) S.1 S.2.1 dX8_findFrom_49 (by decide) ?_
        refine lv_isub S.1 S.2.1 dX8_findFrom_50 ?_
        obtain ⟨v59, hc58, h⟩ := d_b h
        obtain ⟨hk60, h⟩ := d_g h
        have hk60 := d_k hk60
        refine drr (va_runV (As := [.int (v2 - 1)]) (rest := [.ref (dad g v56)]) S (kX8_numbered l g hc58) (cwV 1 S.2.2.2.2 gX8_findFrom_X8_numbered rfl rfl rfl ynX8_numbered ⟨Nat.le_of_ble_eq_true rfl, Nat.le_of_ble_eq_true rfl⟩) (dpV hE hP hS (ci := 8) rfl (dat9 k0)) rfl rfl hl.1 rfl (lv_room (Nat.le_of_ble_eq_true rfl)) dX8_findFrom_51 ⟨Nat.le_of_ble_eq_true rfl, Nat.le_of_ble_eq_true rfl⟩) hS (fun H locs hP hS => ?_)
        obtain ⟨v62, hc61, h⟩ := d_b h
        obtain ⟨hk63, h⟩ := d_g h
        have hk63 := d_k hk63
        refine drr (va_runV (As := []) (rest := [.ref (dad g v56)]) S (kX5_ends l g hc61) (cwV 0 S.2.2.2.2 gX8_findFrom_X5_ends rfl rfl rfl ynX5_ends ⟨Nat.le_of_ble_eq_true rfl, Nat.le_of_ble_eq_true rfl⟩) (dpV hE hP hS (ci := 5) rfl (dat6 hk60)) rfl rfl hl.1 rfl (lv_room (Nat.le_of_ble_eq_true rfl)) dX8_findFrom_54 ⟨Nat.le_of_ble_eq_true rfl, Nat.le_of_ble_eq_true rfl⟩) hS (fun H locs hP hS => ?_)
        obtain ⟨m65, hc64, h⟩ := d_b h
        refine drv (va_runV (As := [.ref (dad g v62)]) (rest := []) S (kX9_copy l g hc64) (cwV 1 S.2.2.2.2 gX8_findFrom_X9_copy rfl rfl rfl ynX9_copy ⟨Nat.le_of_ble_eq_true rfl, Nat.le_of_ble_eq_true rfl⟩) (dpV hE hP hS (ci := 9) rfl (dat10 hk57)) rfl rfl hl.1 rfl (lv_room (Nat.le_of_ble_eq_true rfl)) dX8_findFrom_57 ⟨Nat.le_of_ble_eq_true rfl, Nat.le_of_ble_eq_true rfl⟩) hS (fun H locs hP hS => ?_)
        refine lv_iload S.1 S.2.1 dX8_findFrom_60 (lv_at hl 2 rfl) ?_
        refine lv_if_le (tgt := 88) S.1 S.2.1 dX8_findFrom_62 (by decide) (fun cq => ?_) (fun cq => ?_)
        · have h := d_t cq h
          refine lv_aload S.1 S.2.1 dX8_findFrom_88 (lv_at hl 1 rfl) ?_
          refine lv_aload S.1 S.2.1 dX8_findFrom_90 (lv_at hl 0 rfl) ?_
          refine lv_iload_n S.1 S.2.1 dX8_findFrom_92 rfl (lv_at hl 5 rfl) ?_
          obtain ⟨m67, hc66, h⟩ := d_b h
          refine drv (va_runS (As := [.ref (dad g v48), .ref (dad g v53), .int p3]) (rest := []) S (kX8_sendKept l g hc66) (va_cwS 3 S.2.2.2.2 gX8_findFrom_X8_sendKept rfl rfl rfl ynX8_sendKept ⟨Nat.le_of_ble_eq_true rfl, Nat.le_of_ble_eq_true rfl⟩) (dpS hE hP hS) rfl rfl hl.1 rfl (lv_room (Nat.le_of_ble_eq_true rfl)) dX8_findFrom_93 ⟨Nat.le_of_ble_eq_true rfl, Nat.le_of_ble_eq_true rfl⟩) hS (fun H locs hP hS => ?_)
          obtain ⟨v68, ev68⟩ : ∃ z : Int32, z = v2 + 1 := ⟨_, rfl⟩
          have h := d_let ev68 h
          refine lv_iinc (v := v68) (lv' := [(4, .int v68), (6, .ref (dad g v53)), (5, .ref (dad g v48)), (0, .ref (dad g p0)), (2, .ref (dad g p2)), (3, .int p3)]) S.1 S.2.1 dX8_findFrom_96 hl (k := 2) rfl (by rw [ev68]; rfl) (by decide) rfl (fun ls hl => ?_)
          refine lv_goto (tgt := 3) S.1 S.2.1 dX8_findFrom_99 (by decide) ?_
          obtain rfl := Option.some.inj h
          exact hCL1 _ rfl H locs ls hP hS (lv_sub hl [0, 3, 4, 5] rfl)
        · have h := d_f cq h
          refine lv_aload S.1 S.2.1 dX8_findFrom_65 (lv_at hl 1 rfl) ?_
          obtain ⟨v70, hc69, h⟩ := d_b h
          refine dri (va_runV (As := []) (rest := []) S (kX5_isLeast l g hc69) (cwV 0 S.2.2.2.2 gX8_findFrom_X5_isLeast rfl rfl rfl ynX5_isLeast ⟨Nat.le_of_ble_eq_true rfl, Nat.le_of_ble_eq_true rfl⟩) (dpV hE hP hS (ci := 5) rfl (dat6 hk49)) rfl rfl hl.1 rfl (lv_room (Nat.le_of_ble_eq_true rfl)) dX8_findFrom_67 ⟨Nat.le_of_ble_eq_true rfl, Nat.le_of_ble_eq_true rfl⟩) hS (fun H locs hP hS => ?_)
          refine lv_if_eq (tgt := 88) S.1 S.2.1 dX8_findFrom_70 (by decide) (fun cq => ?_) (fun cq => ?_)
          · have h := d_t cq h
            refine lv_aload S.1 S.2.1 dX8_findFrom_88 (lv_at hl 1 rfl) ?_
            refine lv_aload S.1 S.2.1 dX8_findFrom_90 (lv_at hl 0 rfl) ?_
            refine lv_iload_n S.1 S.2.1 dX8_findFrom_92 rfl (lv_at hl 5 rfl) ?_
            obtain ⟨m72, hc71, h⟩ := d_b h
            refine drv (va_runS (As := [.ref (dad g v48), .ref (dad g v53), .int p3]) (rest := []) S (kX8_sendKept l g hc71) (va_cwS 3 S.2.2.2.2 gX8_findFrom_X8_sendKept rfl rfl rfl ynX8_sendKept ⟨Nat.le_of_ble_eq_true rfl, Nat.le_of_ble_eq_true rfl⟩) (dpS hE hP hS) rfl rfl hl.1 rfl (lv_room (Nat.le_of_ble_eq_true rfl)) dX8_findFrom_93 ⟨Nat.le_of_ble_eq_true rfl, Nat.le_of_ble_eq_true rfl⟩) hS (fun H locs hP hS => ?_)
            obtain ⟨v73, ev73⟩ : ∃ z : Int32, z = v2 + 1 := ⟨_, rfl⟩
            have h := d_let ev73 h
            refine lv_iinc (v := v73) (lv' := [(4, .int v73), (6, .ref (dad g v53)), (5, .ref (dad g v48)), (0, .ref (dad g p0)), (2, .ref (dad g p2)), (3, .int p3)]) S.1 S.2.1 dX8_findFrom_96 hl (k := 2) rfl (by rw [ev73]; rfl) (by decide) rfl (fun ls hl => ?_)
            refine lv_goto (tgt := 3) S.1 S.2.1 dX8_findFrom_99 (by decide) ?_
            obtain rfl := Option.some.inj h
            exact hCL1 _ rfl H locs ls hP hS (lv_sub hl [0, 3, 4, 5] rfl)
          · have h := d_f cq h
            refine lv_aload_n S.1 S.2.1 dX8_findFrom_73 rfl (lv_at hl 3 rfl) ?_
            refine dgf8_2 S in8 hE hP k0 (S.2.2.2.2 (.fieldLink RX8 25 "DrillField$Show" "pairing" "LDrillField$Pairing;") (List.mem_of_getElem? (i := 2) rfl)) dX8_findFrom_74 ?_
            refine lv_aload S.1 S.2.1 dX8_findFrom_77 (lv_at hl 1 rfl) ?_
            refine lv_aload S.1 S.2.1 dX8_findFrom_79 (lv_at hl 0 rfl) ?_
            refine lv_iload_n S.1 S.2.1 dX8_findFrom_81 rfl (lv_at hl 5 rfl) ?_
            obtain ⟨m75, hc74, h⟩ := d_b h
            refine drv (va_runV (As := [.ref (dad g v48), .ref (dad g v53), .int p3]) (rest := []) S (kX4_send l g hc74) (cwV 3 S.2.2.2.2 gX8_findFrom_X4_send rfl rfl rfl ynX4_send ⟨Nat.le_of_ble_eq_true rfl, Nat.le_of_ble_eq_true rfl⟩) (dpV hE hP hS (ci := 4) rfl (dat5 dk_153)) rfl rfl hl.1 rfl (lv_room (Nat.le_of_ble_eq_true rfl)) dX8_findFrom_82 ⟨Nat.le_of_ble_eq_true rfl, Nat.le_of_ble_eq_true rfl⟩) hS (fun H locs hP hS => ?_)
            refine lv_goto (tgt := 96) S.1 S.2.1 dX8_findFrom_85 (by decide) ?_
            obtain ⟨v76, ev76⟩ : ∃ z : Int32, z = v2 + 1 := ⟨_, rfl⟩
            have h := d_let ev76 h
            refine lv_iinc (v := v76) (lv' := [(4, .int v76), (6, .ref (dad g v53)), (5, .ref (dad g v48)), (0, .ref (dad g p0)), (2, .ref (dad g p2)), (3, .int p3)]) S.1 S.2.1 dX8_findFrom_96 hl (k := 2) rfl (by rw [ev76]; rfl) (by decide) rfl (fun ls hl => ?_)
            refine lv_goto (tgt := 3) S.1 S.2.1 dX8_findFrom_99 (by decide) ?_
            obtain rfl := Option.some.inj h
            exact hCL1 _ rfl H locs ls hP hS (lv_sub hl [0, 3, 4, 5] rfl)
      · have h := d_t cq h
        refine lv_aload S.1 S.2.1 dX8_findFrom_41 (lv_at hl 0 rfl) ?_
        refine lv_goto (tgt := 57) S.1 S.2.1 dX8_findFrom_43 (by decide) ?_
        obtain ⟨m78, hc77, h⟩ := d_b h
        refine drv (va_runV (As := [.ref (dad g v53)]) (rest := []) S (kX9_copy l g hc77) (cwV 1 S.2.2.2.2 gX8_findFrom_X9_copy rfl rfl rfl ynX9_copy ⟨Nat.le_of_ble_eq_true rfl, Nat.le_of_ble_eq_true rfl⟩) (dpV hE hP hS (ci := 9) rfl (dat10 hk57)) rfl rfl hl.1 rfl (lv_room (Nat.le_of_ble_eq_true rfl)) dX8_findFrom_57 ⟨Nat.le_of_ble_eq_true rfl, Nat.le_of_ble_eq_true rfl⟩) hS (fun H locs hP hS => ?_)
        refine lv_iload S.1 S.2.1 dX8_findFrom_60 (lv_at hl 2 rfl) ?_
        refine lv_if_le (tgt := 88) S.1 S.2.1 dX8_findFrom_62 (by decide) (fun cq => ?_) (fun cq => ?_)
        · have h := d_t cq h
          refine lv_aload S.1 S.2.1 dX8_findFrom_88 (lv_at hl 1 rfl) ?_
          refine lv_aload S.1 S.2.1 dX8_findFrom_90 (lv_at hl 0 rfl) ?_
          refine lv_iload_n S.1 S.2.1 dX8_findFrom_92 rfl (lv_at hl 5 rfl) ?_
          obtain ⟨m80, hc79, h⟩ := d_b h
          refine drv (va_runS (As := [.ref (dad g v48), .ref (dad g v53), .int p3]) (rest := []) S (kX8_sendKept l g hc79) (va_cwS 3 S.2.2.2.2 gX8_findFrom_X8_sendKept rfl rfl rfl ynX8_sendKept ⟨Nat.le_of_ble_eq_true rfl, Nat.le_of_ble_eq_true rfl⟩) (dpS hE hP hS) rfl rfl hl.1 rfl (lv_room (Nat.le_of_ble_eq_true rfl)) dX8_findFrom_93 ⟨Nat.le_of_ble_eq_true rfl, Nat.le_of_ble_eq_true rfl⟩) hS (fun H locs hP hS => ?_)
          obtain ⟨v81, ev81⟩ : ∃ z : Int32, z = v2 + 1 := ⟨_, rfl⟩
          have h := d_let ev81 h
          refine lv_iinc (v := v81) (lv' := [(4, .int v81), (6, .ref (dad g v53)), (5, .ref (dad g v48)), (0, .ref (dad g p0)), (2, .ref (dad g p2)), (3, .int p3)]) S.1 S.2.1 dX8_findFrom_96 hl (k := 2) rfl (by rw [ev81]; rfl) (by decide) rfl (fun ls hl => ?_)
          refine lv_goto (tgt := 3) S.1 S.2.1 dX8_findFrom_99 (by decide) ?_
          obtain rfl := Option.some.inj h
          exact hCL1 _ rfl H locs ls hP hS (lv_sub hl [0, 3, 4, 5] rfl)
        · have h := d_f cq h
          refine lv_aload S.1 S.2.1 dX8_findFrom_65 (lv_at hl 1 rfl) ?_
          obtain ⟨v83, hc82, h⟩ := d_b h
          refine dri (va_runV (As := []) (rest := []) S (kX5_isLeast l g hc82) (cwV 0 S.2.2.2.2 gX8_findFrom_X5_isLeast rfl rfl rfl ynX5_isLeast ⟨Nat.le_of_ble_eq_true rfl, Nat.le_of_ble_eq_true rfl⟩) (dpV hE hP hS (ci := 5) rfl (dat6 hk49)) rfl rfl hl.1 rfl (lv_room (Nat.le_of_ble_eq_true rfl)) dX8_findFrom_67 ⟨Nat.le_of_ble_eq_true rfl, Nat.le_of_ble_eq_true rfl⟩) hS (fun H locs hP hS => ?_)
          refine lv_if_eq (tgt := 88) S.1 S.2.1 dX8_findFrom_70 (by decide) (fun cq => ?_) (fun cq => ?_)
          · have h := d_t cq h
            refine lv_aload S.1 S.2.1 dX8_findFrom_88 (lv_at hl 1 rfl) ?_
            refine lv_aload S.1 S.2.1 dX8_findFrom_90 (lv_at hl 0 rfl) ?_
            refine lv_iload_n S.1 S.2.1 dX8_findFrom_92 rfl (lv_at hl 5 rfl) ?_
            obtain ⟨m85, hc84, h⟩ := d_b h
            refine drv (va_runS (As := [.ref (dad g v48), .ref (dad g v53), .int p3]) (rest := []) S (kX8_sendKept l g hc84) (va_cwS 3 S.2.2.2.2 gX8_findFrom_X8_sendKept rfl rfl rfl ynX8_sendKept ⟨Nat.le_of_ble_eq_true rfl, Nat.le_of_ble_eq_true rfl⟩) (dpS hE hP hS) rfl rfl hl.1 rfl (lv_room (Nat.le_of_ble_eq_true rfl)) dX8_findFrom_93 ⟨Nat.le_of_ble_eq_true rfl, Nat.le_of_ble_eq_true rfl⟩) hS (fun H locs hP hS => ?_)
            obtain ⟨v86, ev86⟩ : ∃ z : Int32, z = v2 + 1 := ⟨_, rfl⟩
            have h := d_let ev86 h
            refine lv_iinc (v := v86) (lv' := [(4, .int v86), (6, .ref (dad g v53)), (5, .ref (dad g v48)), (0, .ref (dad g p0)), (2, .ref (dad g p2)), (3, .int p3)]) S.1 S.2.1 dX8_findFrom_96 hl (k := 2) rfl (by rw [ev86]; rfl) (by decide) rfl (fun ls hl => ?_)
            refine lv_goto (tgt := 3) S.1 S.2.1 dX8_findFrom_99 (by decide) ?_
            obtain rfl := Option.some.inj h
            exact hCL1 _ rfl H locs ls hP hS (lv_sub hl [0, 3, 4, 5] rfl)
          · have h := d_f cq h
            refine lv_aload_n S.1 S.2.1 dX8_findFrom_73 rfl (lv_at hl 3 rfl) ?_
            refine dgf8_2 S in8 hE hP k0 (S.2.2.2.2 (.fieldLink RX8 25 "DrillField$Show" "pairing" "LDrillField$Pairing;") (List.mem_of_getElem? (i := 2) rfl)) dX8_findFrom_74 ?_
            refine lv_aload S.1 S.2.1 dX8_findFrom_77 (lv_at hl 1 rfl) ?_
            refine lv_aload S.1 S.2.1 dX8_findFrom_79 (lv_at hl 0 rfl) ?_
            refine lv_iload_n S.1 S.2.1 dX8_findFrom_81 rfl (lv_at hl 5 rfl) ?_
            obtain ⟨m88, hc87, h⟩ := d_b h
            refine drv (va_runV (As := [.ref (dad g v48), .ref (dad g v53), .int p3]) (rest := []) S (kX4_send l g hc87) (cwV 3 S.2.2.2.2 gX8_findFrom_X4_send rfl rfl rfl ynX4_send ⟨Nat.le_of_ble_eq_true rfl, Nat.le_of_ble_eq_true rfl⟩) (dpV hE hP hS (ci := 4) rfl (dat5 dk_153)) rfl rfl hl.1 rfl (lv_room (Nat.le_of_ble_eq_true rfl)) dX8_findFrom_82 ⟨Nat.le_of_ble_eq_true rfl, Nat.le_of_ble_eq_true rfl⟩) hS (fun H locs hP hS => ?_)
            refine lv_goto (tgt := 96) S.1 S.2.1 dX8_findFrom_85 (by decide) ?_
            obtain ⟨v89, ev89⟩ : ∃ z : Int32, z = v2 + 1 := ⟨_, rfl⟩
            have h := d_let ev89 h
            refine lv_iinc (v := v89) (lv' := [(4, .int v89), (6, .ref (dad g v53)), (5, .ref (dad g v48)), (0, .ref (dad g p0)), (2, .ref (dad g p2)), (3, .int p3)]) S.1 S.2.1 dX8_findFrom_96 hl (k := 2) rfl (by rw [ev89]; rfl) (by decide) rfl (fun ls hl => ?_)
            refine lv_goto (tgt := 3) S.1 S.2.1 dX8_findFrom_99 (by decide) ?_
            obtain rfl := Option.some.inj h
            exact hCL1 _ rfl H locs ls hP hS (lv_sub hl [0, 3, 4, 5] rfl)
  · obtain ⟨m90, rfl⟩ : ∃ z, z = qL1 := ⟨_, rfl⟩
    have h := d_p1 h
    intro H locs ls hP hS hl
    have hP : va_P g.1 vwCl (dws g m90) H := hP
    have hl : lv_has ls 7 [] := hl
    obtain rfl := Option.some.inj h
    exact dtv S hr hlk hE hP hS dX8_findFrom_102
theorem dX8_grow_0 : decode cX8_grow 0 = .ok (.aload_n 0, 1) := by decide +kernel
theorem dX8_grow_1 : decode cX8_grow 1 = .ok (.getfield 29, 3) := by decide +kernel
theorem dX8_grow_4 : decode cX8_grow 4 = .ok (.istore_n 1, 1) := by decide +kernel
theorem dX8_grow_5 : decode cX8_grow 5 = .ok (.aload_n 0, 1) := by decide +kernel
theorem dX8_grow_6 : decode cX8_grow 6 = .ok (.aload_n 0, 1) := by decide +kernel
theorem dX8_grow_7 : decode cX8_grow 7 = .ok (.getfield 29, 3) := by decide +kernel
theorem dX8_grow_10 : decode cX8_grow 10 = .ok (.iconst 1, 1) := by decide +kernel
theorem dX8_grow_11 : decode cX8_grow 11 = .ok (.iadd, 1) := by decide +kernel
theorem dX8_grow_12 : decode cX8_grow 12 = .ok (.bipush 12, 2) := by decide +kernel
theorem dX8_grow_14 : decode cX8_grow 14 = .ok (.invokestatic 37, 3) := by decide +kernel
theorem dX8_grow_17 : decode cX8_grow 17 = .ok (.putfield 29, 3) := by decide +kernel
theorem dX8_grow_20 : decode cX8_grow 20 = .ok (.iload_n 1, 1) := by decide +kernel
theorem dX8_grow_21 : decode cX8_grow 21 = .ok (.ireturn, 1) := by decide +kernel
def fX8_grow (m : dM) (p0 : Nat) : Option (Int32 × dM) := dg (dkg p0 9) (dlet (m.1 p0 3 : Int32) (fun v1 => dlet (d1 m p0 3 (if 12 < ((m.1 p0 3) + 1) then 12 else ((m.1 p0 3) + 1))) (fun m2 => some (v1, m2))))
set_option maxHeartbeats 4000000 in
set_option maxRecDepth 100000 in
theorem kX8_grow (l : Launch) (g : dG) {m : dM} {p0 : Nat} {r0 : Int32} {m0 : dM} (h : fX8_grow m p0 = some (r0, m0)) : dMet l g yX8_grow wsX8_grow (dRm 1 21) [.ref (dad g p0)] m (dQI g r0 m0) := by
  refine dof (cc := cX8_grow) (maxL := 2) (ret := (some .int)) _ (plainFor_of_name (by decide)) rfl (Nat.le_of_ble_eq_true rfl) ?_
  intro p e s mth below meth c S hr hlk hE H ls hP hS hl
  have S : CallFix p mth c cX8_grow 2 s _ wsX8_grow RX8 := S
  have hl : lv_has ls 2 [(0, .ref (dad g p0))] := hl
  obtain ⟨locs, hlocs⟩ : ∃ z : List Loc, z = [] := ⟨_, rfl⟩
  rw [← hlocs] at hS ⊢
  have in8 : ∀ w ∈ wsX80, w ∈ wsX8_grow := by decide +kernel
  unfold fX8_grow at h
  obtain ⟨k0, h⟩ := d_g h
  have k0 := d_k k0
  refine lv_aload_n S.1 S.2.1 dX8_grow_0 rfl (lv_at hl 0 rfl) ?_
  refine dgf8_3 S in8 hE hP k0 (S.2.2.2.2 (.fieldLink RX8 29 "DrillField$Show" "number" "I") (List.mem_of_getElem? (i := 1) rfl)) dX8_grow_1 ?_
  refine lv_topi (fun v1 ev1 => ?_)
  have h := d_let ev1 h
  refine lv_istore_n (lv' := [(1, .int v1), (0, .ref (dad g p0))]) S.1 S.2.1 dX8_grow_4 rfl hl (by decide) rfl (fun ls hl => ?_)
  refine lv_aload_n S.1 S.2.1 dX8_grow_5 rfl (lv_at hl 1 rfl) ?_
  refine lv_aload_n S.1 S.2.1 dX8_grow_6 rfl (lv_at hl 1 rfl) ?_
  refine dgf8_3 S in8 hE hP k0 (S.2.2.2.2 (.fieldLink RX8 29 "DrillField$Show" "number" "I") (List.mem_of_getElem? (i := 1) rfl)) dX8_grow_7 ?_
  refine lv_iconst (v := 1) S.1 S.2.1 dX8_grow_10 (by decide) ?_
  refine lv_iadd S.1 S.2.1 dX8_grow_11 ?_
  refine lv_bipush (v := 12) S.1 S.2.1 dX8_grow_12 (by decide) ?_
  refine va_mmin S.1 S.2.1 (S.2.2.1.trans hl.1.symm) S.2.2.2.1 (S.2.2.2.2 (.methodLink RX8 37 Lib.Math.min.name) (List.mem_of_getElem? (i := 2) rfl)) (S.2.2.2.2 (.static Lib.Math.min.name) (List.mem_of_getElem? (i := 3) rfl)) (S.2.2.2.2 (.initialized "java/lang/Math") (List.mem_of_getElem? (i := 4) rfl)) (S.2.2.2.2 (.code Lib.Math.min.name Lib.Math.min.code 2 (some .int)) (List.mem_of_getElem? (i := 5) rfl)) (Nat.le_of_ble_eq_true rfl) (Nat.le_of_ble_eq_true rfl) (Nat.le_of_ble_eq_true rfl) (Nat.le_of_ble_eq_true rfl) dX8_grow_14 ?_
  refine dpf8_3 S in8 hE hP hS k0 (S.2.2.2.2 (.fieldLink RX8 29 "DrillField$Show" "number" "I") (List.mem_of_getElem? (i := 1) rfl)) dX8_grow_17 (fun H locs hP hS => ?_)
  obtain ⟨m2, em2⟩ : ∃ z : dM, z = d1 m p0 3 (if 12 < ((m.1 p0 3) + 1) then 12 else ((m.1 p0 3) + 1)) := ⟨_, rfl⟩
  have h := d_let em2 h
  rw [← em2] at hP
  refine lv_iload_n S.1 S.2.1 dX8_grow_20 rfl (lv_at hl 0 rfl) ?_
  obtain ⟨rfl, rfl⟩ := Prod.mk.inj (Option.some.inj h)
  exact dti S hr hlk hE hP hS rfl dX8_grow_21
theorem dX8_shrink_0 : decode cX8_shrink 0 = .ok (.aload_n 0, 1) := by decide +kernel
theorem dX8_shrink_1 : decode cX8_shrink 1 = .ok (.aload_n 0, 1) := by decide +kernel
theorem dX8_shrink_2 : decode cX8_shrink 2 = .ok (.getfield 29, 3) := by decide +kernel
theorem dX8_shrink_5 : decode cX8_shrink 5 = .ok (.iconst 1, 1) := by decide +kernel
theorem dX8_shrink_6 : decode cX8_shrink 6 = .ok (.isub, 1) := by decide +kernel
theorem dX8_shrink_7 : decode cX8_shrink 7 = .ok (.iconst 0, 1) := by decide +kernel
theorem dX8_shrink_8 : decode cX8_shrink 8 = .ok (.invokestatic 43, 3) := by decide +kernel
theorem dX8_shrink_11 : decode cX8_shrink 11 = .ok (.putfield 29, 3) := by decide +kernel
theorem dX8_shrink_14 : decode cX8_shrink 14 = .ok (.return_, 1) := by decide +kernel
def fX8_shrink (m : dM) (p0 : Nat) : Option dM := dg (dkg p0 9) (dlet (d1 m p0 3 (if ((m.1 p0 3) - 1) < 0 then 0 else ((m.1 p0 3) - 1))) (fun m1 => some m1))
set_option maxHeartbeats 4000000 in
set_option maxRecDepth 100000 in
theorem kX8_shrink (l : Launch) (g : dG) {m : dM} {p0 : Nat} {m0 : dM} (h : fX8_shrink m p0 = some m0) : dMet l g yX8_shrink wsX8_shrink (dRm 1 21) [.ref (dad g p0)] m (dQV g m0) := by
  refine dof (cc := cX8_shrink) (maxL := 1) (ret := none) _ (plainFor_of_name (by decide)) rfl (Nat.le_of_ble_eq_true rfl) ?_
  intro p e s mth below meth c S hr hlk hE H ls hP hS hl
  have S : CallFix p mth c cX8_shrink 1 s _ wsX8_shrink RX8 := S
  have hl : lv_has ls 1 [(0, .ref (dad g p0))] := hl
  obtain ⟨locs, hlocs⟩ : ∃ z : List Loc, z = [] := ⟨_, rfl⟩
  rw [← hlocs] at hS ⊢
  have in8 : ∀ w ∈ wsX80, w ∈ wsX8_shrink := by decide +kernel
  unfold fX8_shrink at h
  obtain ⟨k0, h⟩ := d_g h
  have k0 := d_k k0
  refine lv_aload_n S.1 S.2.1 dX8_shrink_0 rfl (lv_at hl 0 rfl) ?_
  refine lv_aload_n S.1 S.2.1 dX8_shrink_1 rfl (lv_at hl 0 rfl) ?_
  refine dgf8_3 S in8 hE hP k0 (S.2.2.2.2 (.fieldLink RX8 29 "DrillField$Show" "number" "I") (List.mem_of_getElem? (i := 1) rfl)) dX8_shrink_2 ?_
  refine lv_iconst (v := 1) S.1 S.2.1 dX8_shrink_5 (by decide) ?_
  refine lv_isub S.1 S.2.1 dX8_shrink_6 ?_
  refine lv_iconst (v := 0) S.1 S.2.1 dX8_shrink_7 (by decide) ?_
  refine va_mmax S.1 S.2.1 (S.2.2.1.trans hl.1.symm) S.2.2.2.1 (S.2.2.2.2 (.methodLink RX8 43 Lib.Math.max.name) (List.mem_of_getElem? (i := 2) rfl)) (S.2.2.2.2 (.static Lib.Math.max.name) (List.mem_of_getElem? (i := 3) rfl)) (S.2.2.2.2 (.initialized "java/lang/Math") (List.mem_of_getElem? (i := 4) rfl)) (S.2.2.2.2 (.code Lib.Math.max.name Lib.Math.max.code 2 (some .int)) (List.mem_of_getElem? (i := 5) rfl)) (Nat.le_of_ble_eq_true rfl) (Nat.le_of_ble_eq_true rfl) (Nat.le_of_ble_eq_true rfl) (Nat.le_of_ble_eq_true rfl) dX8_shrink_8 ?_
  refine dpf8_3 S in8 hE hP hS k0 (S.2.2.2.2 (.fieldLink RX8 29 "DrillField$Show" "number" "I") (List.mem_of_getElem? (i := 1) rfl)) dX8_shrink_11 (fun H locs hP hS => ?_)
  obtain ⟨m1, em1⟩ : ∃ z : dM, z = d1 m p0 3 (if ((m.1 p0 3) - 1) < 0 then 0 else ((m.1 p0 3) - 1)) := ⟨_, rfl⟩
  have h := d_let em1 h
  rw [← em1] at hP
  obtain rfl := Option.some.inj h
  exact dtv S hr hlk hE hP hS dX8_shrink_14
set_option maxRecDepth 20000 in
theorem ggX8_tenthsOfSeconds_X8_numbered : GoodIn wsX8_tenthsOfSeconds wsX8_numbered := goodIn_r _ [6, 7, 8, 9, 10, 11, 25, 26, 27, 28] (by decide +kernel) (by decide +kernel)
set_option maxRecDepth 20000 in
theorem gX8_tenthsOfSeconds_X8_numbered : GoodIn wsX8_tenthsOfSeconds (wsV RX8 46 RX8 yX8_numbered wsX8_numbered) := goodIn_app (goodIn_of _ (by decide +kernel)) ggX8_tenthsOfSeconds_X8_numbered
set_option maxRecDepth 20000 in
theorem ggX8_tenthsOfSeconds_X5_tenthsOfSeconds : GoodIn wsX8_tenthsOfSeconds wsX5_tenthsOfSeconds := goodIn_r _ [16, 17, 18, 19, 10, 20, 21, 22, 23, 24, 29, 30, 31, 32, 33, 34, 35] (by decide +kernel) (by decide +kernel)
set_option maxRecDepth 20000 in
theorem gX8_tenthsOfSeconds_X5_tenthsOfSeconds : GoodIn wsX8_tenthsOfSeconds (wsV RX8 83 RX5 yX5_tenthsOfSeconds wsX5_tenthsOfSeconds) := goodIn_app (goodIn_of _ (by decide +kernel)) ggX8_tenthsOfSeconds_X5_tenthsOfSeconds
theorem dX8_tenthsOfSeconds_0 : decode cX8_tenthsOfSeconds 0 = .ok (.iconst 0, 1) := by decide +kernel
theorem dX8_tenthsOfSeconds_1 : decode cX8_tenthsOfSeconds 1 = .ok (.istore_n 1, 1) := by decide +kernel
theorem dX8_tenthsOfSeconds_2 : decode cX8_tenthsOfSeconds 2 = .ok (.iconst 0, 1) := by decide +kernel
theorem dX8_tenthsOfSeconds_3 : decode cX8_tenthsOfSeconds 3 = .ok (.istore_n 2, 1) := by decide +kernel
theorem dX8_tenthsOfSeconds_4 : decode cX8_tenthsOfSeconds 4 = .ok (.iload_n 2, 1) := by decide +kernel
theorem dX8_tenthsOfSeconds_5 : decode cX8_tenthsOfSeconds 5 = .ok (.aload_n 0, 1) := by decide +kernel
theorem dX8_tenthsOfSeconds_6 : decode cX8_tenthsOfSeconds 6 = .ok (.getfield 29, 3) := by decide +kernel
theorem dX8_tenthsOfSeconds_9 : decode cX8_tenthsOfSeconds 9 = .ok (.if_icmp .ge 20, 3) := by decide +kernel
theorem dX8_tenthsOfSeconds_12 : decode cX8_tenthsOfSeconds 12 = .ok (.iload_n 1, 1) := by decide +kernel
theorem dX8_tenthsOfSeconds_13 : decode cX8_tenthsOfSeconds 13 = .ok (.aload_n 0, 1) := by decide +kernel
theorem dX8_tenthsOfSeconds_14 : decode cX8_tenthsOfSeconds 14 = .ok (.iload_n 2, 1) := by decide +kernel
theorem dX8_tenthsOfSeconds_15 : decode cX8_tenthsOfSeconds 15 = .ok (.invokevirtual 46, 3) := by decide +kernel
theorem dX8_tenthsOfSeconds_18 : decode cX8_tenthsOfSeconds 18 = .ok (.invokevirtual 83, 3) := by decide +kernel
theorem dX8_tenthsOfSeconds_21 : decode cX8_tenthsOfSeconds 21 = .ok (.iadd, 1) := by decide +kernel
theorem dX8_tenthsOfSeconds_22 : decode cX8_tenthsOfSeconds 22 = .ok (.istore_n 1, 1) := by decide +kernel
theorem dX8_tenthsOfSeconds_23 : decode cX8_tenthsOfSeconds 23 = .ok (.iinc 2 1, 3) := by decide +kernel
theorem dX8_tenthsOfSeconds_26 : decode cX8_tenthsOfSeconds 26 = .ok (.goto (-22), 3) := by decide +kernel
theorem dX8_tenthsOfSeconds_29 : decode cX8_tenthsOfSeconds 29 = .ok (.iload_n 1, 1) := by decide +kernel
theorem dX8_tenthsOfSeconds_30 : decode cX8_tenthsOfSeconds 30 = .ok (.ireturn, 1) := by decide +kernel
def fX8_tenthsOfSeconds_l4 (m : dM) (p0 : Nat) (v2 : Int32) (v3 : Int32) : Option ((Int32 × Int32) ⊕ Int32) := if (m.1 p0 3) ≤ v2 then some (.inr v3) else (fX8_numbered m p0 v2).bind (fun v12 => dg (dkg v12 6) ((fX5_tenthsOfSeconds m v12).bind (fun v15 => dlet (v3 + v15 : Int32) (fun v16 => dlet (v2 + 1 : Int32) (fun v17 => some (.inl (v17, v16)))))))
def fX8_tenthsOfSeconds (m : dM) (p0 : Nat) : Option Int32 := dg (dkg p0 9) ((dlp (fun q => dP2 q (fun v2 v3 => fX8_tenthsOfSeconds_l4 m p0 v2 v3)) dFl (0, 0)).bind (fun q => dP1 q (fun v18 => some v18)))
set_option maxHeartbeats 4000000 in
set_option maxRecDepth 100000 in
theorem kX8_tenthsOfSeconds (l : Launch) (g : dG) {m : dM} {p0 : Nat} {r0 : Int32} (h : fX8_tenthsOfSeconds m p0 = some r0) : dMet l g yX8_tenthsOfSeconds wsX8_tenthsOfSeconds (dRm 3 63) [.ref (dad g p0)] m (dQI g r0 m) := by
  refine dof (cc := cX8_tenthsOfSeconds) (maxL := 3) (ret := (some .int)) _ (plainFor_of_name (by decide)) rfl (Nat.le_of_ble_eq_true rfl) ?_
  intro p e s mth below meth c S hr hlk hE H ls hP hS hl
  have S : CallFix p mth c cX8_tenthsOfSeconds 3 s _ wsX8_tenthsOfSeconds RX8 := S
  have hl : lv_has ls 3 [(0, .ref (dad g p0))] := hl
  obtain ⟨locs, hlocs⟩ : ∃ z : List Loc, z = [] := ⟨_, rfl⟩
  rw [← hlocs] at hS ⊢
  have in8 : ∀ w ∈ wsX80, w ∈ wsX8_tenthsOfSeconds := by decide +kernel
  unfold fX8_tenthsOfSeconds at h
  obtain ⟨k0, h⟩ := d_g h
  have k0 := d_k k0
  refine lv_iconst (v := 0) S.1 S.2.1 dX8_tenthsOfSeconds_0 (by decide) ?_
  refine lv_istore_n (lv' := [(1, .int 0), (0, .ref (dad g p0))]) S.1 S.2.1 dX8_tenthsOfSeconds_1 rfl hl (by decide) rfl (fun ls hl => ?_)
  refine lv_iconst (v := 0) S.1 S.2.1 dX8_tenthsOfSeconds_2 (by decide) ?_
  refine lv_istore_n (lv' := [(2, .int 0), (1, .int 0), (0, .ref (dad g p0))]) S.1 S.2.1 dX8_tenthsOfSeconds_3 rfl hl (by decide) rfl (fun ls hl => ?_)
  obtain ⟨qL1, hqL1, h⟩ := d_b h
  refine d_lp (Hd := fun q => match q with | (v2, v3) => ∀ (H : Heap) (locs : List Loc) (ls : Array Slot), va_P g.1 vwCl (dws g m) H → va_S (dA g) s.heap H locs → lv_has ls 3 [(2, .int v2), (1, .int v3), (0, .ref (dad g p0))] → W p l e (headSpec wsX8_tenthsOfSeconds (dRm 3 63)).room s mth (([.ref (dad g p0)] : List Value).toArray) below meth c H locs 0 0 (MQ below (dQI g r0 m) (([.ref (dad g p0)] : List Value).toArray) s 0 0 (dA g)) (F0 mth 4 ls [])) (K := fun q => (fun (v18 : _) => ∀ (H : Heap) (locs : List Loc) (ls : Array Slot), va_P g.1 vwCl (dws g m) H → va_S (dA g) s.heap H locs → lv_has ls 3 [(1, .int v18)] → W p l e (headSpec wsX8_tenthsOfSeconds (dRm 3 63)).room s mth (([.ref (dad g p0)] : List Value).toArray) below meth c H locs 0 0 (MQ below (dQI g r0 m) (([.ref (dad g p0)] : List Value).toArray) s 0 0 (dA g)) (F0 mth 29 ls [])) q) ?_ dFl _ qL1 hqL1 ?_ H locs ls hP hS (lv_sub hl [0, 1, 2] rfl)
  · intro q o h hCL1 hEL1
    obtain ⟨v2, v3⟩ := q
    have h : fX8_tenthsOfSeconds_l4 m p0 v2 v3 = some o := h
    intro H locs ls hP hS hl
    have hP : va_P g.1 vwCl (dws g m) H := hP
    have hl : lv_has ls 3 [(2, .int v2), (1, .int v3), (0, .ref (dad g p0))] := hl
    unfold fX8_tenthsOfSeconds_l4 at h
    refine lv_iload_n S.1 S.2.1 dX8_tenthsOfSeconds_4 rfl (lv_at hl 0 rfl) ?_
    refine lv_aload_n S.1 S.2.1 dX8_tenthsOfSeconds_5 rfl (lv_at hl 2 rfl) ?_
    refine dgf8_3 S in8 hE hP k0 (S.2.2.2.2 (.fieldLink RX8 29 "DrillField$Show" "number" "I") (List.mem_of_getElem? (i := 1) rfl)) dX8_tenthsOfSeconds_6 ?_
    refine lv_icmp_ge (tgt := 29) S.1 S.2.1 dX8_tenthsOfSeconds_9 (by decide) (fun cq => ?_) (fun cq => ?_)
    · have h := d_t cq h
      obtain rfl := Option.some.inj h
      exact hEL1 _ rfl H locs ls hP hS (lv_sub hl [1] rfl)
    · have h := d_f cq h
      refine lv_iload_n S.1 S.2.1 dX8_tenthsOfSeconds_12 rfl (lv_at hl 1 rfl) ?_
      refine lv_aload_n S.1 S.2.1 dX8_tenthsOfSeconds_13 rfl (lv_at hl 2 rfl) ?_
      refine lv_iload_n S.1 S.2.1 dX8_tenthsOfSeconds_14 rfl (lv_at hl 0 rfl) ?_
      obtain ⟨v12, hc11, h⟩ := d_b h
      obtain ⟨hk13, h⟩ := d_g h
      have hk13 := d_k hk13
      refine drr (va_runV (As := [.int v2]) (rest := [.int v3]) S (kX8_numbered l g hc11) (cwV 1 S.2.2.2.2 gX8_tenthsOfSeconds_X8_numbered rfl rfl rfl ynX8_numbered ⟨Nat.le_of_ble_eq_true rfl, Nat.le_of_ble_eq_true rfl⟩) (dpV hE hP hS (ci := 8) rfl (dat9 k0)) rfl rfl hl.1 rfl (lv_room (Nat.le_of_ble_eq_true rfl)) dX8_tenthsOfSeconds_15 ⟨Nat.le_of_ble_eq_true rfl, Nat.le_of_ble_eq_true rfl⟩) hS (fun H locs hP hS => ?_)
      obtain ⟨v15, hc14, h⟩ := d_b h
      refine dri (va_runV (As := []) (rest := [.int v3]) S (kX5_tenthsOfSeconds l g hc14) (cwV 0 S.2.2.2.2 gX8_tenthsOfSeconds_X5_tenthsOfSeconds rfl rfl rfl ynX5_tenthsOfSeconds ⟨Nat.le_of_ble_eq_true rfl, Nat.le_of_ble_eq_true rfl⟩) (dpV hE hP hS (ci := 5) rfl (dat6 hk13)) rfl rfl hl.1 rfl (lv_room (Nat.le_of_ble_eq_true rfl)) dX8_tenthsOfSeconds_18 ⟨Nat.le_of_ble_eq_true rfl, Nat.le_of_ble_eq_true rfl⟩) hS (fun H locs hP hS => ?_)
      refine lv_iadd S.1 S.2.1 dX8_tenthsOfSeconds_21 ?_
      refine lv_topi (fun v16 ev16 => ?_)
      have h := d_let ev16 h
      refine lv_istore_n (lv' := [(1, .int v16), (2, .int v2), (0, .ref (dad g p0))]) S.1 S.2.1 dX8_tenthsOfSeconds_22 rfl hl (by decide) rfl (fun ls hl => ?_)
      obtain ⟨v17, ev17⟩ : ∃ z : Int32, z = v2 + 1 := ⟨_, rfl⟩
      have h := d_let ev17 h
      refine lv_iinc (v := v17) (lv' := [(2, .int v17), (1, .int v16), (0, .ref (dad g p0))]) S.1 S.2.1 dX8_tenthsOfSeconds_23 hl (k := 1) rfl (by rw [ev17]; rfl) (by decide) rfl (fun ls hl => ?_)
      refine lv_goto (tgt := 4) S.1 S.2.1 dX8_tenthsOfSeconds_26 (by decide) ?_
      obtain rfl := Option.some.inj h
      exact hCL1 _ rfl H locs ls hP hS (lv_sub hl [0, 1, 2] rfl)
  · obtain ⟨v18, rfl⟩ : ∃ z, z = qL1 := ⟨_, rfl⟩
    have h := d_p1 h
    intro H locs ls hP hS hl
    have hP : va_P g.1 vwCl (dws g m) H := hP
    have hl : lv_has ls 3 [(1, .int v18)] := hl
    refine lv_iload_n S.1 S.2.1 dX8_tenthsOfSeconds_29 rfl (lv_at hl 0 rfl) ?_
    obtain rfl := Option.some.inj h
    exact dti S hr hlk hE hP hS rfl dX8_tenthsOfSeconds_30
