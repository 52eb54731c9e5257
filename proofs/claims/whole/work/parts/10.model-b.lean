set_option maxRecDepth 20000 in
theorem ggX12_tells_X12_finds : GoodIn wsX12_tells wsX12_finds := goodIn_r _ [9, 10, 11, 12, 4, 13, 14, 15, 8, 16, 17, 18, 19, 20, 21, 22, 23, 24, 25, 26, 1, 27, 28, 29, 30, 31, 32, 33, 34, 35, 36, 37, 38, 39, 40, 41, 42, 43, 44, 45, 46, 47, 48, 49, 50, 51, 52, 53, 54, 55, 56, 57, 58, 59, 60, 61, 62, 63, 64, 65, 66, 67, 68, 69, 70, 71, 72, 73, 74] (by decide +kernel) (by decide +kernel)
set_option maxRecDepth 20000 in
theorem gX12_tells_X12_finds : GoodIn wsX12_tells (wsV RX12 142 RX12 yX12_finds wsX12_finds) := goodIn_app (goodIn_of _ (by decide +kernel)) ggX12_tells_X12_finds
theorem dX12_tells_0 : decode cX12_tells 0 = .ok (.aload_n 0, 1) := by decide +kernel
theorem dX12_tells_1 : decode cX12_tells 1 = .ok (.getfield 33, 3) := by decide +kernel
theorem dX12_tells_4 : decode cX12_tells 4 = .ok (.iload_n 1, 1) := by decide +kernel
theorem dX12_tells_5 : decode cX12_tells 5 = .ok (.iload_n 2, 1) := by decide +kernel
theorem dX12_tells_6 : decode cX12_tells 6 = .ok (.iastore, 1) := by decide +kernel
theorem dX12_tells_7 : decode cX12_tells 7 = .ok (.aload_n 0, 1) := by decide +kernel
theorem dX12_tells_8 : decode cX12_tells 8 = .ok (.getfield 36, 3) := by decide +kernel
theorem dX12_tells_11 : decode cX12_tells 11 = .ok (.iload_n 1, 1) := by decide +kernel
theorem dX12_tells_12 : decode cX12_tells 12 = .ok (.iload_n 3, 1) := by decide +kernel
theorem dX12_tells_13 : decode cX12_tells 13 = .ok (.iastore, 1) := by decide +kernel
theorem dX12_tells_14 : decode cX12_tells 14 = .ok (.aload_n 0, 1) := by decide +kernel
theorem dX12_tells_15 : decode cX12_tells 15 = .ok (.getfield 39, 3) := by decide +kernel
theorem dX12_tells_18 : decode cX12_tells 18 = .ok (.iload_n 1, 1) := by decide +kernel
theorem dX12_tells_19 : decode cX12_tells 19 = .ok (.iload 4, 2) := by decide +kernel
theorem dX12_tells_21 : decode cX12_tells 21 = .ok (.iastore, 1) := by decide +kernel
theorem dX12_tells_22 : decode cX12_tells 22 = .ok (.aload_n 0, 1) := by decide +kernel
theorem dX12_tells_23 : decode cX12_tells 23 = .ok (.getfield 42, 3) := by decide +kernel
theorem dX12_tells_26 : decode cX12_tells 26 = .ok (.iload_n 1, 1) := by decide +kernel
theorem dX12_tells_27 : decode cX12_tells 27 = .ok (.iload 5, 2) := by decide +kernel
theorem dX12_tells_29 : decode cX12_tells 29 = .ok (.bastore, 1) := by decide +kernel
theorem dX12_tells_30 : decode cX12_tells 30 = .ok (.aload_n 0, 1) := by decide +kernel
theorem dX12_tells_31 : decode cX12_tells 31 = .ok (.invokevirtual 142, 3) := by decide +kernel
theorem dX12_tells_34 : decode cX12_tells 34 = .ok (.return_, 1) := by decide +kernel
def fX12_tells (m : dM) (p0 : Nat) (p1 : Int32) (p2 : Int32) (p3 : Int32) (p4 : Int32) (p5 : Int32) : Option dM := dg (dkg p0 13) (dg (dIx p1 (dL 451)) (dlet (d1 m 451 (Int32.toNatClampNeg (p1)) p2) (fun m1 => dg (dIx p1 (dL 452)) (dlet (d1 m1 452 (Int32.toNatClampNeg (p1)) p3) (fun m2 => dg (dIx p1 (dL 453)) (dlet (d1 m2 453 (Int32.toNatClampNeg (p1)) p4) (fun m3 => dg (dIx p1 (dL 454)) (dg (dB p5) (dlet (d1 m3 454 (Int32.toNatClampNeg (p1)) p5) (fun m4 => (fX12_finds m4 p0).bind (fun m6 => some m6)))))))))))
set_option maxHeartbeats 4000000 in
set_option maxRecDepth 100000 in
theorem kX12_tells (l : Launch) (g : dG) {m : dM} {p0 : Nat} {p1 : Int32} {p2 : Int32} {p3 : Int32} {p4 : Int32} {p5 : Int32} {m0 : dM} (h : fX12_tells m p0 p1 p2 p3 p4 p5 = some m0) : dMet l g yX12_tells wsX12_tells (dRm 5 116) [.ref (dad g p0), .int p1, .int p2, .int p3, .int p4, .int p5] m (dQV g m0) := by
  refine dof (cc := cX12_tells) (maxL := 6) (ret := none) _ (plainFor_of_name (by decide)) rfl (Nat.le_of_ble_eq_true rfl) ?_
  intro p e s mth below meth c S hr hlk hE H ls hP hS hl
  have S : CallFix p mth c cX12_tells 6 s _ wsX12_tells RX12 := S
  have hl : lv_has ls 6 [(0, .ref (dad g p0)), (1, .int p1), (2, .int p2), (3, .int p3), (4, .int p4), (5, .int p5)] := hl
  obtain ⟨locs, hlocs⟩ : ∃ z : List Loc, z = [] := ⟨_, rfl⟩
  rw [← hlocs] at hS ⊢
  have in12 : ∀ w ∈ wsX120, w ∈ wsX12_tells := by decide +kernel
  unfold fX12_tells at h
  obtain ⟨k0, h⟩ := d_g h
  have k0 := d_k k0
  refine lv_aload_n S.1 S.2.1 dX12_tells_0 rfl (lv_at hl 0 rfl) ?_
  refine dgf12_9 S in12 hE hP k0 (S.2.2.2.2 (.fieldLink RX12 33 "DrillFieldModel" "setOf" "[I") (List.mem_of_getElem? (i := 1) rfl)) dX12_tells_1 ?_
  refine lv_iload_n S.1 S.2.1 dX12_tells_4 rfl (lv_at hl 1 rfl) ?_
  refine lv_iload_n S.1 S.2.1 dX12_tells_5 rfl (lv_at hl 2 rfl) ?_
  obtain ⟨hi, h⟩ := d_g h
  refine d_iast S hE hP hS dk_451 hi dX12_tells_6 (fun H locs hP hS => ?_)
  obtain ⟨m1, em1⟩ : ∃ z : dM, z = d1 m 451 (Int32.toNatClampNeg (p1)) p2 := ⟨_, rfl⟩
  have h := d_let em1 h
  rw [← em1] at hP
  refine lv_aload_n S.1 S.2.1 dX12_tells_7 rfl (lv_at hl 0 rfl) ?_
  refine dgf12_10 S in12 hE hP k0 (S.2.2.2.2 (.fieldLink RX12 36 "DrillFieldModel" "counts" "[I") (List.mem_of_getElem? (i := 2) rfl)) dX12_tells_8 ?_
  refine lv_iload_n S.1 S.2.1 dX12_tells_11 rfl (lv_at hl 1 rfl) ?_
  refine lv_iload_n S.1 S.2.1 dX12_tells_12 rfl (lv_at hl 3 rfl) ?_
  obtain ⟨hi, h⟩ := d_g h
  refine d_iast S hE hP hS dk_452 hi dX12_tells_13 (fun H locs hP hS => ?_)
  obtain ⟨m2, em2⟩ : ∃ z : dM, z = d1 m1 452 (Int32.toNatClampNeg (p1)) p3 := ⟨_, rfl⟩
  have h := d_let em2 h
  rw [← em2] at hP
  refine lv_aload_n S.1 S.2.1 dX12_tells_14 rfl (lv_at hl 0 rfl) ?_
  refine dgf12_11 S in12 hE hP k0 (S.2.2.2.2 (.fieldLink RX12 39 "DrillFieldModel" "tempo" "[I") (List.mem_of_getElem? (i := 3) rfl)) dX12_tells_15 ?_
  refine lv_iload_n S.1 S.2.1 dX12_tells_18 rfl (lv_at hl 1 rfl) ?_
  refine lv_iload S.1 S.2.1 dX12_tells_19 (lv_at hl 4 rfl) ?_
  obtain ⟨hi, h⟩ := d_g h
  refine d_iast S hE hP hS dk_453 hi dX12_tells_21 (fun H locs hP hS => ?_)
  obtain ⟨m3, em3⟩ : ∃ z : dM, z = d1 m2 453 (Int32.toNatClampNeg (p1)) p4 := ⟨_, rfl⟩
  have h := d_let em3 h
  rw [← em3] at hP
  refine lv_aload_n S.1 S.2.1 dX12_tells_22 rfl (lv_at hl 0 rfl) ?_
  refine dgf12_12 S in12 hE hP k0 (S.2.2.2.2 (.fieldLink RX12 42 "DrillFieldModel" "isLeast" "[Z") (List.mem_of_getElem? (i := 4) rfl)) dX12_tells_23 ?_
  refine lv_iload_n S.1 S.2.1 dX12_tells_26 rfl (lv_at hl 1 rfl) ?_
  refine lv_iload S.1 S.2.1 dX12_tells_27 (lv_at hl 5 rfl) ?_
  obtain ⟨hi, h⟩ := d_g h
  obtain ⟨hb, h⟩ := d_g h
  refine d_zast S hE hP hS dk_454 hi hb dX12_tells_29 (fun H locs hP hS => ?_)
  obtain ⟨m4, em4⟩ : ∃ z : dM, z = d1 m3 454 (Int32.toNatClampNeg (p1)) p5 := ⟨_, rfl⟩
  have h := d_let em4 h
  rw [← em4] at hP
  refine lv_aload_n S.1 S.2.1 dX12_tells_30 rfl (lv_at hl 0 rfl) ?_
  obtain ⟨m6, hc5, h⟩ := d_b h
  refine drv (va_runV (As := []) (rest := []) S (kX12_finds l g hc5) (cwV 0 S.2.2.2.2 gX12_tells_X12_finds rfl rfl rfl ynX12_finds ⟨Nat.le_of_ble_eq_true rfl, Nat.le_of_ble_eq_true rfl⟩) (dpV hE hP hS (ci := 12) rfl (dat13 k0)) rfl rfl hl.1 rfl (lv_room (Nat.le_of_ble_eq_true rfl)) dX12_tells_31 ⟨Nat.le_of_ble_eq_true rfl, Nat.le_of_ble_eq_true rfl⟩) hS (fun H locs hP hS => ?_)
  obtain rfl := Option.some.inj h
  exact dtv S hr hlk hE hP hS dX12_tells_34
set_option maxRecDepth 20000 in
theorem ggX12_change_X12_isPart : GoodIn wsX12_change wsX12_isPart := goodIn_r _ [6, 7, 8, 9, 5, 10, 64, 65, 66, 67, 68, 69, 70, 71, 72, 73, 74, 75, 76, 77, 78, 79, 80, 81, 82, 83, 84, 85, 86, 87, 88, 89, 90, 91] (by decide +kernel) (by decide +kernel)
set_option maxRecDepth 20000 in
theorem gX12_change_X12_isPart : GoodIn wsX12_change (wsV RX12 152 RX12 yX12_isPart wsX12_isPart) := goodIn_app (goodIn_of _ (by decide +kernel)) ggX12_change_X12_isPart
set_option maxRecDepth 20000 in
theorem ggX12_change_X12_isSet : GoodIn wsX12_change wsX12_isSet := goodIn_r _ [14, 15, 8, 9, 5, 10, 64, 65, 66, 67, 68, 69, 70, 71, 72, 73, 74, 75, 76, 77, 78, 79, 80, 81, 82, 83, 84, 85, 86, 87, 88, 89, 90, 91] (by decide +kernel) (by decide +kernel)
set_option maxRecDepth 20000 in
theorem gX12_change_X12_isSet : GoodIn wsX12_change (wsV RX12 145 RX12 yX12_isSet wsX12_isSet) := goodIn_app (goodIn_of _ (by decide +kernel)) ggX12_change_X12_isSet
set_option maxRecDepth 20000 in
theorem ggX12_change_X12_isIn : GoodIn wsX12_change wsX12_isIn := goodIn_r _ [10] (by decide +kernel) (by decide +kernel)
set_option maxRecDepth 20000 in
theorem gX12_change_X12_isIn : GoodIn wsX12_change (va_wsS RX12 79 yX12_isIn wsX12_isIn) := goodIn_app (goodIn_of _ (by decide +kernel)) ggX12_change_X12_isIn
set_option maxRecDepth 20000 in
theorem ggX12_change_X12_tells : GoodIn wsX12_change wsX12_tells := goodIn_r _ [19, 20, 21, 22, 23, 24, 25, 26, 5, 27, 7, 28, 29, 30, 31, 32, 33, 34, 35, 36, 37, 38, 39, 40, 41, 42, 43, 44, 45, 46, 47, 48, 49, 50, 51, 52, 53, 54, 55, 56, 57, 58, 59, 60, 61, 62, 63, 64, 65, 66, 67, 68, 69, 70, 71, 72, 73, 74, 75, 76, 77, 78, 79, 80, 81, 82, 83, 84, 85, 86, 87, 88, 89, 90, 91] (by decide +kernel) (by decide +kernel)
set_option maxRecDepth 20000 in
theorem gX12_change_X12_tells : GoodIn wsX12_change (wsV RX12 148 RX12 yX12_tells wsX12_tells) := goodIn_app (goodIn_of _ (by decide +kernel)) ggX12_change_X12_tells
theorem dX12_change_0 : decode cX12_change 0 = .ok (.aload_n 0, 1) := by decide +kernel
theorem dX12_change_1 : decode cX12_change 1 = .ok (.aload_n 0, 1) := by decide +kernel
theorem dX12_change_2 : decode cX12_change 2 = .ok (.iload_n 1, 1) := by decide +kernel
theorem dX12_change_3 : decode cX12_change 3 = .ok (.invokevirtual 152, 3) := by decide +kernel
theorem dX12_change_6 : decode cX12_change 6 = .ok (.ifCond .eq 11, 3) := by decide +kernel
theorem dX12_change_9 : decode cX12_change 9 = .ok (.aload_n 0, 1) := by decide +kernel
theorem dX12_change_10 : decode cX12_change 10 = .ok (.iload_n 2, 1) := by decide +kernel
theorem dX12_change_11 : decode cX12_change 11 = .ok (.invokevirtual 145, 3) := by decide +kernel
theorem dX12_change_14 : decode cX12_change 14 = .ok (.ifCond .ne 7, 3) := by decide +kernel
theorem dX12_change_17 : decode cX12_change 17 = .ok (.iconst 1, 1) := by decide +kernel
theorem dX12_change_18 : decode cX12_change 18 = .ok (.goto 31, 3) := by decide +kernel
theorem dX12_change_21 : decode cX12_change 21 = .ok (.iload_n 3, 1) := by decide +kernel
theorem dX12_change_22 : decode cX12_change 22 = .ok (.iconst 1, 1) := by decide +kernel
theorem dX12_change_23 : decode cX12_change 23 = .ok (.bipush 64, 2) := by decide +kernel
theorem dX12_change_25 : decode cX12_change 25 = .ok (.invokestatic 79, 3) := by decide +kernel
theorem dX12_change_28 : decode cX12_change 28 = .ok (.ifCond .eq 16, 3) := by decide +kernel
theorem dX12_change_31 : decode cX12_change 31 = .ok (.iload 4, 2) := by decide +kernel
theorem dX12_change_33 : decode cX12_change 33 = .ok (.bipush 60, 2) := by decide +kernel
theorem dX12_change_35 : decode cX12_change 35 = .ok (.sipush 240, 3) := by decide +kernel
theorem dX12_change_38 : decode cX12_change 38 = .ok (.invokestatic 79, 3) := by decide +kernel
theorem dX12_change_41 : decode cX12_change 41 = .ok (.ifCond .ne 7, 3) := by decide +kernel
theorem dX12_change_44 : decode cX12_change 44 = .ok (.iconst 2, 1) := by decide +kernel
theorem dX12_change_45 : decode cX12_change 45 = .ok (.goto 4, 3) := by decide +kernel
theorem dX12_change_48 : decode cX12_change 48 = .ok (.iconst 0, 1) := by decide +kernel
theorem dX12_change_49 : decode cX12_change 49 = .ok (.putfield 76, 3) := by decide +kernel
theorem dX12_change_52 : decode cX12_change 52 = .ok (.aload_n 0, 1) := by decide +kernel
theorem dX12_change_53 : decode cX12_change 53 = .ok (.getfield 76, 3) := by decide +kernel
theorem dX12_change_56 : decode cX12_change 56 = .ok (.ifCond .ne 14, 3) := by decide +kernel
theorem dX12_change_59 : decode cX12_change 59 = .ok (.aload_n 0, 1) := by decide +kernel
theorem dX12_change_60 : decode cX12_change 60 = .ok (.iload_n 1, 1) := by decide +kernel
theorem dX12_change_61 : decode cX12_change 61 = .ok (.iload_n 2, 1) := by decide +kernel
theorem dX12_change_62 : decode cX12_change 62 = .ok (.iload_n 3, 1) := by decide +kernel
theorem dX12_change_63 : decode cX12_change 63 = .ok (.iload 4, 2) := by decide +kernel
theorem dX12_change_65 : decode cX12_change 65 = .ok (.iload 5, 2) := by decide +kernel
theorem dX12_change_67 : decode cX12_change 67 = .ok (.invokevirtual 148, 3) := by decide +kernel
theorem dX12_change_70 : decode cX12_change 70 = .ok (.return_, 1) := by decide +kernel
def fX12_change (m : dM) (p0 : Nat) (p1 : Int32) (p2 : Int32) (p3 : Int32) (p4 : Int32) (p5 : Int32) : Option dM := dg (dkg p0 13) ((fX12_isPart m p0 p1).bind (fun v2 => if v2 = 0 then dlet (d1 m p0 25 1) (fun m3 => some m3) else (fX12_isSet m p0 p2).bind (fun v5 => if v5 = 0 then dlet (d1 m p0 25 1) (fun m15 => some m15) else (fX12_isIn m p3 1 64).bind (fun v7 => if v7 = 0 then dlet (d1 m p0 25 2) (fun m8 => some m8) else (fX12_isIn m p4 60 240).bind (fun v10 => if v10 = 0 then dlet (d1 m p0 25 2) (fun m14 => some m14) else dlet (d1 m p0 25 0) (fun m11 => (fX12_tells m11 p0 p1 p2 p3 p4 p5).bind (fun m13 => some m13)))))))
set_option maxHeartbeats 4000000 in
set_option maxRecDepth 100000 in
theorem kX12_change (l : Launch) (g : dG) {m : dM} {p0 : Nat} {p1 : Int32} {p2 : Int32} {p3 : Int32} {p4 : Int32} {p5 : Int32} {m0 : dM} (h : fX12_change m p0 p1 p2 p3 p4 p5 = some m0) : dMet l g yX12_change wsX12_change (dRm 6 141) [.ref (dad g p0), .int p1, .int p2, .int p3, .int p4, .int p5] m (dQV g m0) := by
  refine dof (cc := cX12_change) (maxL := 6) (ret := none) _ (plainFor_of_name (by decide)) rfl (Nat.le_of_ble_eq_true rfl) ?_
  intro p e s mth below meth c S hr hlk hE H ls hP hS hl
  have S : CallFix p mth c cX12_change 6 s _ wsX12_change RX12 := S
  have hl : lv_has ls 6 [(0, .ref (dad g p0)), (1, .int p1), (2, .int p2), (3, .int p3), (4, .int p4), (5, .int p5)] := hl
  obtain ⟨locs, hlocs⟩ : ∃ z : List Loc, z = [] := ⟨_, rfl⟩
  rw [← hlocs] at hS ⊢
  have in12 : ∀ w ∈ wsX120, w ∈ wsX12_change := by decide +kernel
  unfold fX12_change at h
  obtain ⟨k0, h⟩ := d_g h
  have k0 := d_k k0
  refine lv_aload_n S.1 S.2.1 dX12_change_0 rfl (lv_at hl 0 rfl) ?_
  refine lv_aload_n S.1 S.2.1 dX12_change_1 rfl (lv_at hl 0 rfl) ?_
  refine lv_iload_n S.1 S.2.1 dX12_change_2 rfl (lv_at hl 1 rfl) ?_
  obtain ⟨v2, hc1, h⟩ := d_b h
  refine dri (va_runV (As := [.int p1]) (rest := [.ref (dad g p0)]) S (kX12_isPart l g hc1) (cwV 1 S.2.2.2.2 gX12_change_X12_isPart rfl rfl rfl ynX12_isPart ⟨Nat.le_of_ble_eq_true rfl, Nat.le_of_ble_eq_true rfl⟩) (dpV hE hP hS (ci := 12) rfl (dat13 k0)) rfl rfl hl.1 rfl (lv_room (Nat.le_of_ble_eq_true rfl)) dX12_change_3 ⟨Nat.le_of_ble_eq_true rfl, Nat.le_of_ble_eq_true rfl⟩) hS (fun H locs hP hS => ?_)
  refine lv_if_eq (tgt := 17) S.1 S.2.1 dX12_change_6 (by decide) (fun cq => ?_) (fun cq => ?_)
  · have h := d_t cq h
    refine lv_iconst (v := 1) S.1 S.2.1 dX12_change_17 (by decide) ?_
    refine lv_goto (tgt := 49) S.1 S.2.1 dX12_change_18 (by decide) ?_
    refine dpf12_25 S in12 hE hP hS k0 (S.2.2.2.2 (.fieldLink RX12 76 "DrillFieldModel" "thrown" "I") (List.mem_of_getElem? (i := 1) rfl)) dX12_change_49 (fun H locs hP hS => ?_)
    obtain ⟨m3, em3⟩ : ∃ z : dM, z = d1 m p0 25 1 := ⟨_, rfl⟩
    have h := d_let em3 h
    rw [← em3] at hP
    refine lv_aload_n S.1 S.2.1 dX12_change_52 rfl (lv_at hl 0 rfl) ?_
    refine dgf12_25 S in12 hE hP k0 (S.2.2.2.2 (.fieldLink RX12 76 "DrillFieldModel" "thrown" "I") (List.mem_of_getElem? (i := 1) rfl)) dX12_change_53 ?_
    refine d_top (v := 1) (by rw [em3]; exact d1_get) ?_
    refine lv_if_ne (tgt := 70) S.1 S.2.1 dX12_change_56 (by decide) (fun cq => ?_) (fun cq => ?_)
    · obtain rfl := Option.some.inj h
      exact dtv S hr hlk hE hP hS dX12_change_70
    · exact absurd cq (by decide)
  · have h := d_f cq h
    refine lv_aload_n S.1 S.2.1 dX12_change_9 rfl (lv_at hl 0 rfl) ?_
    refine lv_iload_n S.1 S.2.1 dX12_change_10 rfl (lv_at hl 2 rfl) ?_
    obtain ⟨v5, hc4, h⟩ := d_b h
    refine dri (va_runV (As := [.int p2]) (rest := [.ref (dad g p0)]) S (kX12_isSet l g hc4) (cwV 1 S.2.2.2.2 gX12_change_X12_isSet rfl rfl rfl ynX12_isSet ⟨Nat.le_of_ble_eq_true rfl, Nat.le_of_ble_eq_true rfl⟩) (dpV hE hP hS (ci := 12) rfl (dat13 k0)) rfl rfl hl.1 rfl (lv_room (Nat.le_of_ble_eq_true rfl)) dX12_change_11 ⟨Nat.le_of_ble_eq_true rfl, Nat.le_of_ble_eq_true rfl⟩) hS (fun H locs hP hS => ?_)
    refine lv_if_ne (tgt := 21) S.1 S.2.1 dX12_change_14 (by decide) (fun cq => ?_) (fun cq => ?_)
    · have h := d_f cq h
      refine lv_iload_n S.1 S.2.1 dX12_change_21 rfl (lv_at hl 3 rfl) ?_
      refine lv_iconst (v := 1) S.1 S.2.1 dX12_change_22 (by decide) ?_
      refine lv_bipush (v := 64) S.1 S.2.1 dX12_change_23 (by decide) ?_
      obtain ⟨v7, hc6, h⟩ := d_b h
      refine dri (va_runS (As := [.int p3, .int 1, .int 64]) (rest := [.ref (dad g p0)]) S (kX12_isIn l g hc6) (va_cwS 3 S.2.2.2.2 gX12_change_X12_isIn rfl rfl rfl ynX12_isIn ⟨Nat.le_of_ble_eq_true rfl, Nat.le_of_ble_eq_true rfl⟩) (dpS hE hP hS) rfl rfl hl.1 rfl (lv_room (Nat.le_of_ble_eq_true rfl)) dX12_change_25 ⟨Nat.le_of_ble_eq_true rfl, Nat.le_of_ble_eq_true rfl⟩) hS (fun H locs hP hS => ?_)
      refine lv_if_eq (tgt := 44) S.1 S.2.1 dX12_change_28 (by decide) (fun cq => ?_) (fun cq => ?_)
      · have h := d_t cq h
        refine lv_iconst (v := 2) S.1 S.2.1 dX12_change_44 (by decide) ?_
        refine lv_goto (tgt := 49) S.1 S.2.1 dX12_change_45 (by decide) ?_
        refine dpf12_25 S in12 hE hP hS k0 (S.2.2.2.2 (.fieldLink RX12 76 "DrillFieldModel" "thrown" "I") (List.mem_of_getElem? (i := 1) rfl)) dX12_change_49 (fun H locs hP hS => ?_)
        obtain ⟨m8, em8⟩ : ∃ z : dM, z = d1 m p0 25 2 := ⟨_, rfl⟩
        have h := d_let em8 h
        rw [← em8] at hP
        refine lv_aload_n S.1 S.2.1 dX12_change_52 rfl (lv_at hl 0 rfl) ?_
        refine dgf12_25 S in12 hE hP k0 (S.2.2.2.2 (.fieldLink RX12 76 "DrillFieldModel" "thrown" "I") (List.mem_of_getElem? (i := 1) rfl)) dX12_change_53 ?_
        refine d_top (v := 2) (by rw [em8]; exact d1_get) ?_
        refine lv_if_ne (tgt := 70) S.1 S.2.1 dX12_change_56 (by decide) (fun cq => ?_) (fun cq => ?_)
        · obtain rfl := Option.some.inj h
          exact dtv S hr hlk hE hP hS dX12_change_70
        · exact absurd cq (by decide)
      · have h := d_f cq h
        refine lv_iload S.1 S.2.1 dX12_change_31 (lv_at hl 4 rfl) ?_
        refine lv_bipush (v := 60) S.1 S.2.1 dX12_change_33 (by decide) ?_
        refine lv_sipush (v := 240) S.1 S.2.1 dX12_change_35 (by decide) ?_
        obtain ⟨v10, hc9, h⟩ := d_b h
        refine dri (va_runS (As := [.int p4, .int 60, .int 240]) (rest := [.ref (dad g p0)]) S (kX12_isIn l g hc9) (va_cwS 3 S.2.2.2.2 gX12_change_X12_isIn rfl rfl rfl ynX12_isIn ⟨Nat.le_of_ble_eq_true rfl, Nat.le_of_ble_eq_true rfl⟩) (dpS hE hP hS) rfl rfl hl.1 rfl (lv_room (Nat.le_of_ble_eq_true rfl)) dX12_change_38 ⟨Nat.le_of_ble_eq_true rfl, Nat.le_of_ble_eq_true rfl⟩) hS (fun H locs hP hS => ?_)
        refine lv_if_ne (tgt := 48) S.1 S.2.1 dX12_change_41 (by decide) (fun cq => ?_) (fun cq => ?_)
        · have h := d_f cq h
          refine lv_iconst (v := 0) S.1 S.2.1 dX12_change_48 (by decide) ?_
          refine dpf12_25 S in12 hE hP hS k0 (S.2.2.2.2 (.fieldLink RX12 76 "DrillFieldModel" "thrown" "I") (List.mem_of_getElem? (i := 1) rfl)) dX12_change_49 (fun H locs hP hS => ?_)
          obtain ⟨m11, em11⟩ : ∃ z : dM, z = d1 m p0 25 0 := ⟨_, rfl⟩
          have h := d_let em11 h
          rw [← em11] at hP
          refine lv_aload_n S.1 S.2.1 dX12_change_52 rfl (lv_at hl 0 rfl) ?_
          refine dgf12_25 S in12 hE hP k0 (S.2.2.2.2 (.fieldLink RX12 76 "DrillFieldModel" "thrown" "I") (List.mem_of_getElem? (i := 1) rfl)) dX12_change_53 ?_
          refine d_top (v := 0) (by rw [em11]; exact d1_get) ?_
          refine lv_if_ne (tgt := 70) S.1 S.2.1 dX12_change_56 (by decide) (fun cq => ?_) (fun cq => ?_)
          · exact absurd (by decide) cq
          · refine lv_aload_n S.1 S.2.1 dX12_change_59 rfl (lv_at hl 0 rfl) ?_
            refine lv_iload_n S.1 S.2.1 dX12_change_60 rfl (lv_at hl 1 rfl) ?_
            refine lv_iload_n S.1 S.2.1 dX12_change_61 rfl (lv_at hl 2 rfl) ?_
            refine lv_iload_n S.1 S.2.1 dX12_change_62 rfl (lv_at hl 3 rfl) ?_
            refine lv_iload S.1 S.2.1 dX12_change_63 (lv_at hl 4 rfl) ?_
            refine lv_iload S.1 S.2.1 dX12_change_65 (lv_at hl 5 rfl) ?_
            obtain ⟨m13, hc12, h⟩ := d_b h
            refine drv (va_runV (As := [.int p1, .int p2, .int p3, .int p4, .int p5]) (rest := []) S (kX12_tells l g hc12) (cwV 5 S.2.2.2.2 gX12_change_X12_tells rfl rfl rfl ynX12_tells ⟨Nat.le_of_ble_eq_true rfl, Nat.le_of_ble_eq_true rfl⟩) (dpV hE hP hS (ci := 12) rfl (dat13 k0)) rfl rfl hl.1 rfl (lv_room (Nat.le_of_ble_eq_true rfl)) dX12_change_67 ⟨Nat.le_of_ble_eq_true rfl, Nat.le_of_ble_eq_true rfl⟩) hS (fun H locs hP hS => ?_)
            obtain rfl := Option.some.inj h
            exact dtv S hr hlk hE hP hS dX12_change_70
        · have h := d_t cq h
          refine lv_iconst (v := 2) S.1 S.2.1 dX12_change_44 (by decide) ?_
          refine lv_goto (tgt := 49) S.1 S.2.1 dX12_change_45 (by decide) ?_
          refine dpf12_25 S in12 hE hP hS k0 (S.2.2.2.2 (.fieldLink RX12 76 "DrillFieldModel" "thrown" "I") (List.mem_of_getElem? (i := 1) rfl)) dX12_change_49 (fun H locs hP hS => ?_)
          obtain ⟨m14, em14⟩ : ∃ z : dM, z = d1 m p0 25 2 := ⟨_, rfl⟩
          have h := d_let em14 h
          rw [← em14] at hP
          refine lv_aload_n S.1 S.2.1 dX12_change_52 rfl (lv_at hl 0 rfl) ?_
          refine dgf12_25 S in12 hE hP k0 (S.2.2.2.2 (.fieldLink RX12 76 "DrillFieldModel" "thrown" "I") (List.mem_of_getElem? (i := 1) rfl)) dX12_change_53 ?_
          refine d_top (v := 2) (by rw [em14]; exact d1_get) ?_
          refine lv_if_ne (tgt := 70) S.1 S.2.1 dX12_change_56 (by decide) (fun cq => ?_) (fun cq => ?_)
          · obtain rfl := Option.some.inj h
            exact dtv S hr hlk hE hP hS dX12_change_70
          · exact absurd cq (by decide)
    · have h := d_t cq h
      refine lv_iconst (v := 1) S.1 S.2.1 dX12_change_17 (by decide) ?_
      refine lv_goto (tgt := 49) S.1 S.2.1 dX12_change_18 (by decide) ?_
      refine dpf12_25 S in12 hE hP hS k0 (S.2.2.2.2 (.fieldLink RX12 76 "DrillFieldModel" "thrown" "I") (List.mem_of_getElem? (i := 1) rfl)) dX12_change_49 (fun H locs hP hS => ?_)
      obtain ⟨m15, em15⟩ : ∃ z : dM, z = d1 m p0 25 1 := ⟨_, rfl⟩
      have h := d_let em15 h
      rw [← em15] at hP
      refine lv_aload_n S.1 S.2.1 dX12_change_52 rfl (lv_at hl 0 rfl) ?_
      refine dgf12_25 S in12 hE hP k0 (S.2.2.2.2 (.fieldLink RX12 76 "DrillFieldModel" "thrown" "I") (List.mem_of_getElem? (i := 1) rfl)) dX12_change_53 ?_
      refine d_top (v := 1) (by rw [em15]; exact d1_get) ?_
      refine lv_if_ne (tgt := 70) S.1 S.2.1 dX12_change_56 (by decide) (fun cq => ?_) (fun cq => ?_)
      · obtain rfl := Option.some.inj h
        exact dtv S hr hlk hE hP hS dX12_change_70
      · exact absurd cq (by decide)
set_option maxRecDepth 20000 in
theorem ggX12_says_X12_endX : GoodIn wsX12_says wsX12_endX := goodIn_r _ [5, 6, 7, 8, 17, 18, 19, 20, 21, 22, 23, 24, 25, 26, 27, 28, 29, 30, 31, 32, 33, 34, 35, 36, 37, 38, 39, 40, 41, 42, 43, 44] (by decide +kernel) (by decide +kernel)
set_option maxRecDepth 20000 in
theorem gX12_says_X12_endX : GoodIn wsX12_says (wsV RX12 112 RX12 yX12_endX wsX12_endX) := goodIn_app (goodIn_of _ (by decide +kernel)) ggX12_says_X12_endX
set_option maxRecDepth 20000 in
theorem ggX12_says_X12_endY : GoodIn wsX12_says wsX12_endY := goodIn_r _ [12, 13, 7, 8, 17, 18, 19, 20, 21, 22, 23, 24, 25, 26, 27, 28, 29, 30, 31, 32, 33, 34, 35, 36, 37, 38, 39, 40, 41, 42, 43, 44] (by decide +kernel) (by decide +kernel)
set_option maxRecDepth 20000 in
theorem gX12_says_X12_endY : GoodIn wsX12_says (wsV RX12 115 RX12 yX12_endY wsX12_endY) := goodIn_app (goodIn_of _ (by decide +kernel)) ggX12_says_X12_endY
set_option maxRecDepth 20000 in
theorem ggX12_says_X12_size : GoodIn wsX12_says wsX12_size := goodIn_r _ [16] (by decide +kernel) (by decide +kernel)
set_option maxRecDepth 20000 in
theorem gX12_says_X12_size : GoodIn wsX12_says (va_wsS RX12 204 yX12_size wsX12_size) := goodIn_app (goodIn_of _ (by decide +kernel)) ggX12_says_X12_size
theorem dX12_says_0 : decode cX12_says 0 = .ok (.aload_n 0, 1) := by decide +kernel
theorem dX12_says_1 : decode cX12_says 1 = .ok (.iload_n 1, 1) := by decide +kernel
theorem dX12_says_2 : decode cX12_says 2 = .ok (.iload_n 2, 1) := by decide +kernel
theorem dX12_says_3 : decode cX12_says 3 = .ok (.invokevirtual 112, 3) := by decide +kernel
theorem dX12_says_6 : decode cX12_says 6 = .ok (.istore 4, 2) := by decide +kernel
theorem dX12_says_8 : decode cX12_says 8 = .ok (.aload_n 0, 1) := by decide +kernel
theorem dX12_says_9 : decode cX12_says 9 = .ok (.iload_n 1, 1) := by decide +kernel
theorem dX12_says_10 : decode cX12_says 10 = .ok (.iload_n 2, 1) := by decide +kernel
theorem dX12_says_11 : decode cX12_says 11 = .ok (.invokevirtual 115, 3) := by decide +kernel
theorem dX12_says_14 : decode cX12_says 14 = .ok (.istore 5, 2) := by decide +kernel
theorem dX12_says_16 : decode cX12_says 16 = .ok (.iload 4, 2) := by decide +kernel
theorem dX12_says_18 : decode cX12_says 18 = .ok (.bipush 40, 2) := by decide +kernel
theorem dX12_says_20 : decode cX12_says 20 = .ok (.iadd, 1) := by decide +kernel
theorem dX12_says_21 : decode cX12_says 21 = .ok (.bipush 80, 2) := by decide +kernel
theorem dX12_says_23 : decode cX12_says 23 = .ok (.idiv, 1) := by decide +kernel
theorem dX12_says_24 : decode cX12_says 24 = .ok (.istore 6, 2) := by decide +kernel
theorem dX12_says_26 : decode cX12_says 26 = .ok (.iconst 0, 1) := by decide +kernel
theorem dX12_says_27 : decode cX12_says 27 = .ok (.istore 7, 2) := by decide +kernel
theorem dX12_says_29 : decode cX12_says 29 = .ok (.iconst 1, 1) := by decide +kernel
theorem dX12_says_30 : decode cX12_says 30 = .ok (.istore 8, 2) := by decide +kernel
theorem dX12_says_32 : decode cX12_says 32 = .ok (.iload 8, 2) := by decide +kernel
theorem dX12_says_34 : decode cX12_says 34 = .ok (.iconst 4, 1) := by decide +kernel
theorem dX12_says_35 : decode cX12_says 35 = .ok (.if_icmp .ge 45, 3) := by decide +kernel
theorem dX12_says_38 : decode cX12_says 38 = .ok (.iload 5, 2) := by decide +kernel
theorem dX12_says_40 : decode cX12_says 40 = .ok (.sipush 280, 3) := by decide +kernel
theorem dX12_says_43 : decode cX12_says 43 = .ok (.iload 8, 2) := by decide +kernel
theorem dX12_says_45 : decode cX12_says 45 = .ok (.imul, 1) := by decide +kernel
theorem dX12_says_46 : decode cX12_says 46 = .ok (.isub, 1) := by decide +kernel
theorem dX12_says_47 : decode cX12_says 47 = .ok (.invokestatic 204, 3) := by decide +kernel
theorem dX12_says_50 : decode cX12_says 50 = .ok (.iload 5, 2) := by decide +kernel
theorem dX12_says_52 : decode cX12_says 52 = .ok (.sipush 280, 3) := by decide +kernel
theorem dX12_says_55 : decode cX12_says 55 = .ok (.iload 7, 2) := by decide +kernel
theorem dX12_says_57 : decode cX12_says 57 = .ok (.imul, 1) := by decide +kernel
theorem dX12_says_58 : decode cX12_says 58 = .ok (.isub, 1) := by decide +kernel
theorem dX12_says_59 : decode cX12_says 59 = .ok (.invokestatic 204, 3) := by decide +kernel
theorem dX12_says_62 : decode cX12_says 62 = .ok (.if_icmp .ge 8, 3) := by decide +kernel
theorem dX12_says_65 : decode cX12_says 65 = .ok (.iload 8, 2) := by decide +kernel
theorem dX12_says_67 : decode cX12_says 67 = .ok (.goto 5, 3) := by decide +kernel
theorem dX12_says_70 : decode cX12_says 70 = .ok (.iload 7, 2) := by decide +kernel
theorem dX12_says_72 : decode cX12_says 72 = .ok (.istore 7, 2) := by decide +kernel
theorem dX12_says_74 : decode cX12_says 74 = .ok (.iinc 8 1, 3) := by decide +kernel
theorem dX12_says_77 : decode cX12_says 77 = .ok (.goto (-45), 3) := by decide +kernel
theorem dX12_says_80 : decode cX12_says 80 = .ok (.iload_n 3, 1) := by decide +kernel
theorem dX12_says_81 : decode cX12_says 81 = .ok (.ifCond .ne 8, 3) := by decide +kernel
theorem dX12_says_84 : decode cX12_says 84 = .ok (.iload 6, 2) := by decide +kernel
theorem dX12_says_86 : decode cX12_says 86 = .ok (.goto 38, 3) := by decide +kernel
theorem dX12_says_89 : decode cX12_says 89 = .ok (.iload_n 3, 1) := by decide +kernel
theorem dX12_says_90 : decode cX12_says 90 = .ok (.iconst 1, 1) := by decide +kernel
theorem dX12_says_91 : decode cX12_says 91 = .ok (.if_icmp .ne 14, 3) := by decide +kernel
theorem dX12_says_94 : decode cX12_says 94 = .ok (.iload 4, 2) := by decide +kernel
theorem dX12_says_96 : decode cX12_says 96 = .ok (.bipush 80, 2) := by decide +kernel
theorem dX12_says_98 : decode cX12_says 98 = .ok (.iload 6, 2) := by decide +kernel
theorem dX12_says_100 : decode cX12_says 100 = .ok (.imul, 1) := by decide +kernel
theorem dX12_says_101 : decode cX12_says 101 = .ok (.isub, 1) := by decide +kernel
theorem dX12_says_102 : decode cX12_says 102 = .ok (.goto 22, 3) := by decide +kernel
theorem dX12_says_105 : decode cX12_says 105 = .ok (.iload_n 3, 1) := by decide +kernel
theorem dX12_says_106 : decode cX12_says 106 = .ok (.iconst 2, 1) := by decide +kernel
theorem dX12_says_107 : decode cX12_says 107 = .ok (.if_icmp .ne 8, 3) := by decide +kernel
theorem dX12_says_110 : decode cX12_says 110 = .ok (.iload 7, 2) := by decide +kernel
theorem dX12_says_112 : decode cX12_says 112 = .ok (.goto 12, 3) := by decide +kernel
theorem dX12_says_115 : decode cX12_says 115 = .ok (.iload 5, 2) := by decide +kernel
theorem dX12_says_117 : decode cX12_says 117 = .ok (.sipush 280, 3) := by decide +kernel
theorem dX12_says_120 : decode cX12_says 120 = .ok (.iload 7, 2) := by decide +kernel
theorem dX12_says_122 : decode cX12_says 122 = .ok (.imul, 1) := by decide +kernel
theorem dX12_says_123 : decode cX12_says 123 = .ok (.isub, 1) := by decide +kernel
theorem dX12_says_124 : decode cX12_says 124 = .ok (.ireturn, 1) := by decide +kernel
def fX12_says_l32 (m : dM) (v4 : Int32) (v7 : Int32) (v8 : Int32) : Option ((Int32 × Int32) ⊕ Int32) := if 4 ≤ v7 then some (.inr v8) else (fX12_size m (v4 - (280 * v7))).bind (fun v16 => (fX12_size m (v4 - (280 * v8))).bind (fun v18 => if v18 ≤ v16 then dlet (v7 + 1 : Int32) (fun v19 => some (.inl (v19, v8))) else dlet (v7 + 1 : Int32) (fun v20 => some (.inl (v20, v7)))))
def fX12_says (m : dM) (p0 : Nat) (p1 : Int32) (p2 : Int32) (p3 : Int32) : Option Int32 := dg (dkg p0 13) ((fX12_endX m p0 p1 p2).bind (fun v2 => (fX12_endY m p0 p1 p2).bind (fun v4 => dlet ((v2 + 40) / 80 : Int32) (fun v5 => (dlp (fun q => dP2 q (fun v7 v8 => fX12_says_l32 m v4 v7 v8)) dFl (1, 0)).bind (fun q => dP1 q (fun v21 => if p3 = 0 then some v5 else if p3 = 1 then some (v2 - (80 * v5)) else if p3 = 2 then some v21 else some (v4 - (280 * v21))))))))
set_option maxHeartbeats 4000000 in
set_option maxRecDepth 100000 in
theorem kX12_says (l : Launch) (g : dG) {m : dM} {p0 : Nat} {p1 : Int32} {p2 : Int32} {p3 : Int32} {r0 : Int32} (h : fX12_says m p0 p1 p2 p3 = some r0) : dMet l g yX12_says wsX12_says (dRm 1 22) [.ref (dad g p0), .int p1, .int p2, .int p3] m (dQI g r0 m) := by
  refine dof (cc := cX12_says) (maxL := 9) (ret := (some .int)) _ (plainFor_of_name (by decide)) rfl (Nat.le_of_ble_eq_true rfl) ?_
  intro p e s mth below meth c S hr hlk hE H ls hP hS hl
  have S : CallFix p mth c cX12_says 9 s _ wsX12_says RX12 := S
  have hl : lv_has ls 9 [(0, .ref (dad g p0)), (1, .int p1), (2, .int p2), (3, .int p3)] := hl
  obtain ⟨locs, hlocs⟩ : ∃ z : List Loc, z = [] := ⟨_, rfl⟩
  rw [← hlocs] at hS ⊢
  unfold fX12_says at h
  obtain ⟨k0, h⟩ := d_g h
  have k0 := d_k k0
  refine lv_aload_n S.1 S.2.1 dX12_says_0 rfl (lv_at hl 0 rfl) ?_
  refine lv_iload_n S.1 S.2.1 dX12_says_1 rfl (lv_at hl 1 rfl) ?_
  refine lv_iload_n S.1 S.2.1 dX12_says_2 rfl (lv_at hl 2 rfl) ?_
  obtain ⟨v2, hc1, h⟩ := d_b h
  refine dri (va_runV (As := [.int p1, .int p2]) (rest := []) S (kX12_endX l g hc1) (cwV 2 S.2.2.2.2 gX12_says_X12_endX rfl rfl rfl ynX12_endX ⟨Nat.le_of_ble_eq_true rfl, Nat.le_of_ble_eq_true rfl⟩) (dpV hE hP hS (ci := 12) rfl (dat13 k0)) rfl rfl hl.1 rfl (lv_room (Nat.le_of_ble_eq_true rfl)) dX12_says_3 ⟨Nat.le_of_ble_eq_true rfl, Nat.le_of_ble_eq_true rfl⟩) hS (fun H locs hP hS => ?_)
  refine lv_istore (lv' := [(4, .int v2), (0, .ref (dad g p0)), (1, .int p1), (2, .int p2), (3, .int p3)]) S.1 S.2.1 dX12_says_6 hl (by decide) rfl (fun ls hl => ?_)
  refine lv_aload_n S.1 S.2.1 dX12_says_8 rfl (lv_at hl 1 rfl) ?_
  refine lv_iload_n S.1 S.2.1 dX12_says_9 rfl (lv_at hl 2 rfl) ?_
  refine lv_iload_n S.1 S.2.1 dX12_says_10 rfl (lv_at hl 3 rfl) ?_
  obtain ⟨v4, hc3, h⟩ := d_b h
  refine dri (va_runV (As := [.int p1, .int p2]) (rest := []) S (kX12_endY l g hc3) (cwV 2 S.2.2.2.2 gX12_says_X12_endY rfl rfl rfl ynX12_endY ⟨Nat.le_of_ble_eq_true rfl, Nat.le_of_ble_eq_true rfl⟩) (dpV hE hP hS (ci := 12) rfl (dat13 k0)) rfl rfl hl.1 rfl (lv_room (Nat.le_of_ble_eq_true rfl)) dX12_says_11 ⟨Nat.le_of_ble_eq_true rfl, Nat.le_of_ble_eq_true rfl⟩) hS (fun H locs hP hS => ?_)
  refine lv_istore (lv' := [(5, .int v4), (4, .int v2), (0, .ref (dad g p0)), (1, .int p1), (2, .int p2), (3, .int p3)]) S.1 S.2.1 dX12_says_14 hl (by decide) rfl (fun ls hl => ?_)
  refine lv_iload S.1 S.2.1 dX12_says_16 (lv_at hl 1 rfl) ?_
  refine lv_bipush (v := 40) S.1 S.2.1 dX12_says_18 (by decide) ?_
  refine lv_iadd S.1 S.2.1 dX12_says_20 ?_
  refine lv_bipush (v := 80) S.1 S.2.1 dX12_says_21 (by decide) ?_
  refine lv_idiv S.1 S.2.1 dX12_says_23 (by decide) ?_
  refine lv_topi (fun v5 ev5 => ?_)
  have h := d_let ev5 h
  refine lv_istore (lv' := [(6, .int v5), (5, .int v4), (4, .int v2), (0, .ref (dad g p0)), (1, .int p1), (2, .int p2), (3, .int p3)]) S.1 S.2.1 dX12_says_24 hl (by decide) rfl (fun ls hl => ?_)
  refine lv_iconst (v := 0) S.1 S.2.1 dX12_says_26 (by decide) ?_
  refine lv_istore (lv' := [(7, .int 0), (6, .int v5), (5, .int v4), (4, .int v2), (0, .ref (dad g p0)), (1, .int p1), (2, .int p2), (3, .int p3)]) S.1 S.2.1 dX12_says_27 hl (by decide) rfl (fun ls hl => ?_)
  refine lv_iconst (v := 1) S.1 S.2.1 dX12_says_29 (by decide) ?_
  refine lv_istore (lv' := [(8, .int 1), (7, .int 0), (6, .int v5), (5, .int v4), (4, .int v2), (0, .ref (dad g p0)), (1, .int p1), (2, .int p2), (3, .int p3)]) S.1 S.2.1 dX12_says_30 hl (by decide) rfl (fun ls hl => ?_)
  obtain ⟨qL6, hqL6, h⟩ := d_b h
  refine d_lp (Hd := fun q => match q with | (v7, v8) => ∀ (H : Heap) (locs : List Loc) (ls : Array Slot), va_P g.1 vwCl (dws g m) H → va_S (dA g) s.heap H locs → lv_has ls 9 [(8, .int v7), (7, .int v8), (6, .int v5), (5, .int v4), (4, .int v2), (3, .int p3)] → W p l e (headSpec wsX12_says (dRm 1 22)).room s mth (([.ref (dad g p0), .int p1, .int p2, .int p3] : List Value).toArray) below meth c H locs 0 0 (MQ below (dQI g r0 m) (([.ref (dad g p0), .int p1, .int p2, .int p3] : List Value).toArray) s 0 0 (dA g)) (F0 mth 32 ls [])) (K := fun q => (fun (v21 : _) => ∀ (H : Heap) (locs : List Loc) (ls : Array Slot), va_P g.1 vwCl (dws g m) H → va_S (dA g) s.heap H locs → lv_has ls 9 [(3, .int p3), (4, .int v2), (5, .int v4), (6, .int v5), (7, .int v21)] → W p l e (headSpec wsX12_says (dRm 1 22)).room s mth (([.ref (dad g p0), .int p1, .int p2, .int p3] : List Value).toArray) below meth c H locs 0 0 (MQ below (dQI g r0 m) (([.ref (dad g p0), .int p1, .int p2, .int p3] : List Value).toArray) s 0 0 (dA g)) (F0 mth 80 ls [])) q) ?_ dFl _ qL6 hqL6 ?_ H locs ls hP hS (lv_sub hl [0, 1, 2, 3, 4, 8] rfl)
  · intro q o h hCL6 hEL6
    obtain ⟨v7, v8⟩ := q
    have h : fX12_says_l32 m v4 v7 v8 = some o := h
    intro H locs ls hP hS hl
    have hP : va_P g.1 vwCl (dws g m) H := hP
    have hl : lv_has ls 9 [(8, .int v7), (7, .int v8), (6, .int v5), (5, .int v4), (4, .int v2), (3, .int p3)] := hl
    unfold fX12_says_l32 at h
    refine lv_iload S.1 S.2.1 dX12_says_32 (lv_at hl 0 rfl) ?_
    refine lv_iconst (v := 4) S.1 S.2.1 dX12_says_34 (by decide) ?_
    refine lv_icmp_ge (tgt := 80) S.1 S.2.1 dX12_says_35 (by decide) (fun cq => ?_) (fun cq => ?_)
    · have h := d_t cq h
      obtain rfl := Option.some.inj h
      exact hEL6 _ rfl H locs ls hP hS (lv_sub hl [5, 4, 3, 2, 1] rfl)
    · have h := d_f cq h
      refine lv_iload S.1 S.2.1 dX12_says_38 (lv_at hl 3 rfl) ?_
      refine lv_sipush (v := 280) S.1 S.2.1 dX12_says_40 (by decide) ?_
      refine lv_iload S.1 S.2.1 dX12_says_43 (lv_at hl 0 rfl) ?_
      refine lv_imul S.1 S.2.1 dX12_says_45 ?_
      refine lv_isub S.1 S.2.1 dX12_says_46 ?_
      obtain ⟨v16, hc15, h⟩ := d_b h
      refine dri (va_runS (As := [.int (v4 - (280 * v7))]) (rest := []) S (kX12_size l g hc15) (va_cwS 1 S.2.2.2.2 gX12_says_X12_size rfl rfl rfl ynX12_size ⟨Nat.le_of_ble_eq_true rfl, Nat.le_of_ble_eq_true rfl⟩) (dpS hE hP hS) rfl rfl hl.1 rfl (lv_room (Nat.le_of_ble_eq_true rfl)) dX12_says_47 ⟨Nat.le_of_ble_eq_true rfl, Nat.le_of_ble_eq_true rfl⟩) hS (fun H locs hP hS => ?_)
      refine lv_iload S.1 S.2.1 dX12_says_50 (lv_at hl 3 rfl) ?_
      refine lv_sipush (v := 280) S.1 S.2.1 dX12_says_52 (by decide) ?_
      refine lv_iload S.1 S.2.1 dX12_says_55 (lv_at hl 1 rfl) ?_
      refine lv_imul S.1 S.2.1 dX12_says_57 ?_
      refine lv_isub S.1 S.2.1 dX12_says_58 ?_
      obtain ⟨v18, hc17, h⟩ := d_b h
      refine dri (va_runS (As := [.int (v4 - (280 * v8))]) (rest := [.int v16]) S (kX12_size l g hc17) (va_cwS 1 S.2.2.2.2 gX12_says_X12_size rfl rfl rfl ynX12_size ⟨Nat.le_of_ble_eq_true rfl, Nat.le_of_ble_eq_true rfl⟩) (dpS hE hP hS) rfl rfl hl.1 rfl (lv_room (Nat.le_of_ble_eq_true rfl)) dX12_says_59 ⟨Nat.le_of_ble_eq_true rfl, Nat.le_of_ble_eq_true rfl⟩) hS (fun H locs hP hS => ?_)
      refine lv_icmp_ge (tgt := 70) S.1 S.2.1 dX12_says_62 (by decide) (fun cq => ?_) (fun cq => ?_)
      · have h := d_t cq h
        refine lv_iload S.1 S.2.1 dX12_says_70 (lv_at hl 1 rfl) ?_
        refine lv_istore (lv' := [(7, .int v8), (8, .int v7), (6, .int v5), (5, .int v4), (4, .int v2), (3, .int p3)]) S.1 S.2.1 dX12_says_72 hl (by decide) rfl (fun ls hl => ?_)
        obtain ⟨v19, ev19⟩ : ∃ z : Int32, z = v7 + 1 := ⟨_, rfl⟩
        have h := d_let ev19 h
        refine lv_iinc (v := v19) (lv' := [(8, .int v19), (7, .int v8), (6, .int v5), (5, .int v4), (4, .int v2), (3, .int p3)]) S.1 S.2.1 dX12_says_74 hl (k := 1) rfl (by rw [ev19]; rfl) (by decide) rfl (fun ls hl => ?_)
        refine lv_goto (tgt := 32) S.1 S.2.1 dX12_says_77 (by decide) ?_
        obtain rfl := Option.some.inj h
        exact hCL6 _ rfl H locs ls hP hS (lv_sub hl [0, 1, 2, 3, 4, 5] rfl)
      · have h := d_f cq h
        refine lv_iload S.1 S.2.1 dX12_says_65 (lv_at hl 0 rfl) ?_
        refine lv_goto (tgt := 72) S.1 S.2.1 dX12_says_67 (by decide) ?_
        refine lv_istore (lv' := [(7, .int v7), (8, .int v7), (6, .int v5), (5, .int v4), (4, .int v2), (3, .int p3)]) S.1 S.2.1 dX12_says_72 hl (by decide) rfl (fun ls hl => ?_)
        obtain ⟨v20, ev20⟩ : ∃ z : Int32, z = v7 + 1 := ⟨_, rfl⟩
        have h := d_let ev20 h
        refine lv_iinc (v := v20) (lv' := [(8, .int v20), (7, .int v7), (6, .int v5), (5, .int v4), (4, .int v2), (3, .int p3)]) S.1 S.2.1 dX12_says_74 hl (k := 1) rfl (by rw [ev20]; rfl) (by decide) rfl (fun ls hl => ?_)
        refine lv_goto (tgt := 32) S.1 S.2.1 dX12_says_77 (by decide) ?_
        obtain rfl := Option.some.inj h
        exact hCL6 _ rfl H locs ls hP hS (lv_sub hl [0, 1, 2, 3, 4, 5] rfl)
  · obtain ⟨v21, rfl⟩ : ∃ z, z = qL6 := ⟨_, rfl⟩
    have h := d_p1 h
    intro H locs ls hP hS hl
    have hP : va_P g.1 vwCl (dws g m) H := hP
    have hl : lv_has ls 9 [(3, .int p3), (4, .int v2), (5, .int v4), (6, .int v5), (7, .int v21)] := hl
    refine lv_iload_n S.1 S.2.1 dX12_says_80 rfl (lv_at hl 0 rfl) ?_
    refine lv_if_ne (tgt := 89) S.1 S.2.1 dX12_says_81 (by decide) (fun cq => ?_) (fun cq => ?_)
    · have h := d_f cq h
      refine lv_iload_n S.1 S.2.1 dX12_says_89 rfl (lv_at hl 0 rfl) ?_
      refine lv_iconst (v := 1) S.1 S.2.1 dX12_says_90 (by decide) ?_
      refine lv_icmp_ne (tgt := 105) S.1 S.2.1 dX12_says_91 (by decide) (fun cq => ?_) (fun cq => ?_)
      · have h := d_f cq h
        refine lv_iload_n S.1 S.2.1 dX12_says_105 rfl (lv_at hl 0 rfl) ?_
        refine lv_iconst (v := 2) S.1 S.2.1 dX12_says_106 (by decide) ?_
        refine lv_icmp_ne (tgt := 115) S.1 S.2.1 dX12_says_107 (by decide) (fun cq => ?_) (fun cq => ?_)
        · have h := d_f cq h
          refine lv_iload S.1 S.2.1 dX12_says_115 (lv_at hl 2 rfl) ?_
          refine lv_sipush (v := 280) S.1 S.2.1 dX12_says_117 (by decide) ?_
          refine lv_iload S.1 S.2.1 dX12_says_120 (lv_at hl 4 rfl) ?_
          refine lv_imul S.1 S.2.1 dX12_says_122 ?_
          refine lv_isub S.1 S.2.1 dX12_says_123 ?_
          obtain rfl := Option.some.inj h
          exact dti S hr hlk hE hP hS rfl dX12_says_124
        · have h := d_t cq h
          refine lv_iload S.1 S.2.1 dX12_says_110 (lv_at hl 4 rfl) ?_
          refine lv_goto (tgt := 124) S.1 S.2.1 dX12_says_112 (by decide) ?_
          obtain rfl := Option.some.inj h
          exact dti S hr hlk hE hP hS rfl dX12_says_124
      · have h := d_t cq h
        refine lv_iload S.1 S.2.1 dX12_says_94 (lv_at hl 1 rfl) ?_
        refine lv_bipush (v := 80) S.1 S.2.1 dX12_says_96 (by decide) ?_
        refine lv_iload S.1 S.2.1 dX12_says_98 (lv_at hl 3 rfl) ?_
        refine lv_imul S.1 S.2.1 dX12_says_100 ?_
        refine lv_isub S.1 S.2.1 dX12_says_101 ?_
        refine lv_goto (tgt := 124) S.1 S.2.1 dX12_says_102 (by decide) ?_
        obtain rfl := Option.some.inj h
        exact dti S hr hlk hE hP hS rfl dX12_says_124
    · have h := d_t cq h
      refine lv_iload S.1 S.2.1 dX12_says_84 (lv_at hl 3 rfl) ?_
      refine lv_goto (tgt := 124) S.1 S.2.1 dX12_says_86 (by decide) ?_
      obtain rfl := Option.some.inj h
      exact dti S hr hlk hE hP hS rfl dX12_says_124
set_option maxRecDepth 20000 in
theorem ggX12_isChanged_X12_isPart : GoodIn wsX12_isChanged wsX12_isPart := goodIn_r _ [7, 8, 9, 10, 6, 11, 36, 37, 38, 39, 40, 41, 42, 43, 44, 45, 46, 47, 48, 49, 50, 51, 52, 53, 54, 55, 56, 57, 58, 59, 60, 61, 62, 63] (by decide +kernel) (by decide +kernel)
set_option maxRecDepth 20000 in
theorem gX12_isChanged_X12_isPart : GoodIn wsX12_isChanged (wsV RX12 152 RX12 yX12_isPart wsX12_isPart) := goodIn_app (goodIn_of _ (by decide +kernel)) ggX12_isChanged_X12_isPart
set_option maxRecDepth 20000 in
theorem ggX12_isChanged_X12_isDot : GoodIn wsX12_isChanged wsX12_isDot := goodIn_r _ [15, 16, 9, 10, 6, 11, 36, 37, 38, 39, 40, 41, 42, 43, 44, 45, 46, 47, 48, 49, 50, 51, 52, 53, 54, 55, 56, 57, 58, 59, 60, 61, 62, 63] (by decide +kernel) (by decide +kernel)
set_option maxRecDepth 20000 in
theorem gX12_isChanged_X12_isDot : GoodIn wsX12_isChanged (wsV RX12 89 RX12 yX12_isDot wsX12_isDot) := goodIn_app (goodIn_of _ (by decide +kernel)) ggX12_isChanged_X12_isDot
set_option maxRecDepth 20000 in
theorem ggX12_isChanged_X12_says : GoodIn wsX12_isChanged wsX12_says := goodIn_r _ [20, 21, 22, 23, 6, 24, 25, 26, 27, 28, 29, 30, 31, 32, 33, 34, 35, 36, 37, 38, 39, 40, 41, 42, 43, 44, 45, 46, 47, 48, 49, 50, 51, 52, 53, 54, 55, 56, 57, 58, 59, 60, 61, 62, 63] (by decide +kernel) (by decide +kernel)
set_option maxRecDepth 20000 in
theorem gX12_isChanged_X12_says : GoodIn wsX12_isChanged (wsV RX12 207 RX12 yX12_says wsX12_says) := goodIn_app (goodIn_of _ (by decide +kernel)) ggX12_isChanged_X12_says
theorem dX12_isChanged_0 : decode cX12_isChanged 0 = .ok (.bipush 10, 2) := by decide +kernel
theorem dX12_isChanged_2 : decode cX12_isChanged 2 = .ok (.iload_n 1, 1) := by decide +kernel
theorem dX12_isChanged_3 : decode cX12_isChanged 3 = .ok (.imul, 1) := by decide +kernel
theorem dX12_isChanged_4 : decode cX12_isChanged 4 = .ok (.iload_n 2, 1) := by decide +kernel
theorem dX12_isChanged_5 : decode cX12_isChanged 5 = .ok (.iadd, 1) := by decide +kernel
theorem dX12_isChanged_6 : decode cX12_isChanged 6 = .ok (.istore_n 3, 1) := by decide +kernel
theorem dX12_isChanged_7 : decode cX12_isChanged 7 = .ok (.aload_n 0, 1) := by decide +kernel
theorem dX12_isChanged_8 : decode cX12_isChanged 8 = .ok (.iload_n 1, 1) := by decide +kernel
theorem dX12_isChanged_9 : decode cX12_isChanged 9 = .ok (.invokevirtual 152, 3) := by decide +kernel
theorem dX12_isChanged_12 : decode cX12_isChanged 12 = .ok (.ifCond .eq 15, 3) := by decide +kernel
theorem dX12_isChanged_15 : decode cX12_isChanged 15 = .ok (.aload_n 0, 1) := by decide +kernel
theorem dX12_isChanged_16 : decode cX12_isChanged 16 = .ok (.iload_n 2, 1) := by decide +kernel
theorem dX12_isChanged_17 : decode cX12_isChanged 17 = .ok (.invokevirtual 89, 3) := by decide +kernel
theorem dX12_isChanged_20 : decode cX12_isChanged 20 = .ok (.ifCond .eq 7, 3) := by decide +kernel
theorem dX12_isChanged_23 : decode cX12_isChanged 23 = .ok (.iconst 1, 1) := by decide +kernel
theorem dX12_isChanged_24 : decode cX12_isChanged 24 = .ok (.goto 4, 3) := by decide +kernel
theorem dX12_isChanged_27 : decode cX12_isChanged 27 = .ok (.iconst 0, 1) := by decide +kernel
theorem dX12_isChanged_28 : decode cX12_isChanged 28 = .ok (.istore 4, 2) := by decide +kernel
theorem dX12_isChanged_30 : decode cX12_isChanged 30 = .ok (.iload 4, 2) := by decide +kernel
theorem dX12_isChanged_32 : decode cX12_isChanged 32 = .ok (.ifCond .eq 12, 3) := by decide +kernel
theorem dX12_isChanged_35 : decode cX12_isChanged 35 = .ok (.aload_n 0, 1) := by decide +kernel
theorem dX12_isChanged_36 : decode cX12_isChanged 36 = .ok (.getfield 55, 3) := by decide +kernel
theorem dX12_isChanged_39 : decode cX12_isChanged 39 = .ok (.iload_n 3, 1) := by decide +kernel
theorem dX12_isChanged_40 : decode cX12_isChanged 40 = .ok (.baload, 1) := by decide +kernel
theorem dX12_isChanged_41 : decode cX12_isChanged 41 = .ok (.ifCond .ne 23, 3) := by decide +kernel
theorem dX12_isChanged_44 : decode cX12_isChanged 44 = .ok (.iload 4, 2) := by decide +kernel
theorem dX12_isChanged_46 : decode cX12_isChanged 46 = .ok (.ifCond .ne 12, 3) := by decide +kernel
theorem dX12_isChanged_49 : decode cX12_isChanged 49 = .ok (.aload_n 0, 1) := by decide +kernel
theorem dX12_isChanged_50 : decode cX12_isChanged 50 = .ok (.getfield 55, 3) := by decide +kernel
theorem dX12_isChanged_53 : decode cX12_isChanged 53 = .ok (.iload_n 3, 1) := by decide +kernel
theorem dX12_isChanged_54 : decode cX12_isChanged 54 = .ok (.baload, 1) := by decide +kernel
theorem dX12_isChanged_55 : decode cX12_isChanged 55 = .ok (.ifCond .eq 7, 3) := by decide +kernel
theorem dX12_isChanged_58 : decode cX12_isChanged 58 = .ok (.iconst 1, 1) := by decide +kernel
theorem dX12_isChanged_59 : decode cX12_isChanged 59 = .ok (.goto 4, 3) := by decide +kernel
theorem dX12_isChanged_62 : decode cX12_isChanged 62 = .ok (.iconst 0, 1) := by decide +kernel
theorem dX12_isChanged_63 : decode cX12_isChanged 63 = .ok (.ireturn, 1) := by decide +kernel
theorem dX12_isChanged_64 : decode cX12_isChanged 64 = .ok (.iconst 1, 1) := by decide +kernel
theorem dX12_isChanged_65 : decode cX12_isChanged 65 = .ok (.istore 5, 2) := by decide +kernel
theorem dX12_isChanged_67 : decode cX12_isChanged 67 = .ok (.iconst 0, 1) := by decide +kernel
theorem dX12_isChanged_68 : decode cX12_isChanged 68 = .ok (.istore 6, 2) := by decide +kernel
theorem dX12_isChanged_70 : decode cX12_isChanged 70 = .ok (.iload 6, 2) := by decide +kernel
theorem dX12_isChanged_72 : decode cX12_isChanged 72 = .ok (.iconst 4, 1) := by decide +kernel
theorem dX12_isChanged_73 : decode cX12_isChanged 73 = .ok (.if_icmp .ge 41, 3) := by decide +kernel
theorem dX12_isChanged_76 : decode cX12_isChanged 76 = .ok (.iload 5, 2) := by decide +kernel
theorem dX12_isChanged_78 : decode cX12_isChanged 78 = .ok (.aload_n 0, 1) := by decide +kernel
theorem dX12_isChanged_79 : decode cX12_isChanged 79 = .ok (.getfield 52, 3) := by decide +kernel
theorem dX12_isChanged_82 : decode cX12_isChanged 82 = .ok (.iconst 4, 1) := by decide +kernel
theorem dX12_isChanged_83 : decode cX12_isChanged 83 = .ok (.iload_n 3, 1) := by decide +kernel
theorem dX12_isChanged_84 : decode cX12_isChanged 84 = .ok (.imul, 1) := by decide +kernel
theorem dX12_isChanged_85 : decode cX12_isChanged 85 = .ok (.iload 6, 2) := by decide +kernel
theorem dX12_isChanged_87 : decode cX12_isChanged 87 = .ok (.iadd, 1) := by decide +kernel
theorem dX12_isChanged_88 : decode cX12_isChanged 88 = .ok (.iaload, 1) := by decide +kernel
theorem dX12_isChanged_89 : decode cX12_isChanged 89 = .ok (.aload_n 0, 1) := by decide +kernel
theorem dX12_isChanged_90 : decode cX12_isChanged 90 = .ok (.iload_n 1, 1) := by decide +kernel
theorem dX12_isChanged_91 : decode cX12_isChanged 91 = .ok (.iload_n 2, 1) := by decide +kernel
theorem dX12_isChanged_92 : decode cX12_isChanged 92 = .ok (.iload 6, 2) := by decide +kernel
theorem dX12_isChanged_94 : decode cX12_isChanged 94 = .ok (.invokevirtual 207, 3) := by decide +kernel
theorem dX12_isChanged_97 : decode cX12_isChanged 97 = .ok (.if_icmp .ne 7, 3) := by decide +kernel
theorem dX12_isChanged_100 : decode cX12_isChanged 100 = .ok (.iconst 1, 1) := by decide +kernel
theorem dX12_isChanged_101 : decode cX12_isChanged 101 = .ok (.goto 4, 3) := by decide +kernel
theorem dX12_isChanged_104 : decode cX12_isChanged 104 = .ok (.iconst 0, 1) := by decide +kernel
theorem dX12_isChanged_105 : decode cX12_isChanged 105 = .ok (.iand, 1) := by decide +kernel
theorem dX12_isChanged_106 : decode cX12_isChanged 106 = .ok (.istore 5, 2) := by decide +kernel
theorem dX12_isChanged_108 : decode cX12_isChanged 108 = .ok (.iinc 6 1, 3) := by decide +kernel
theorem dX12_isChanged_111 : decode cX12_isChanged 111 = .ok (.goto (-41), 3) := by decide +kernel
theorem dX12_isChanged_114 : decode cX12_isChanged 114 = .ok (.iload 5, 2) := by decide +kernel
theorem dX12_isChanged_116 : decode cX12_isChanged 116 = .ok (.ifCond .ne 7, 3) := by decide +kernel
theorem dX12_isChanged_119 : decode cX12_isChanged 119 = .ok (.iconst 1, 1) := by decide +kernel
theorem dX12_isChanged_120 : decode cX12_isChanged 120 = .ok (.goto 4, 3) := by decide +kernel
theorem dX12_isChanged_123 : decode cX12_isChanged 123 = .ok (.iconst 0, 1) := by decide +kernel
theorem dX12_isChanged_124 : decode cX12_isChanged 124 = .ok (.ireturn, 1) := by decide +kernel
def fX12_isChanged_l70 (m : dM) (p0 : Nat) (p1 : Int32) (p2 : Int32) (v1 : Int32) (v7 : Int32) (v8 : Int32) : Option ((Int32 × Int32) ⊕ Int32) := if 4 ≤ v7 then some (.inr v8) else dg (dIx ((4 * v1) + v7) (dL 457)) ((fX12_says m p0 p1 p2 v7).bind (fun v16 => if (m.1 457 (Int32.toNatClampNeg ((4 * v1) + v7))) = v16 then dlet (v8 &&& 1 : Int32) (fun v19 => dlet (v7 + 1 : Int32) (fun v20 => some (.inl (v20, v19)))) else dlet (v8 &&& 0 : Int32) (fun v17 => dlet (v7 + 1 : Int32) (fun v18 => some (.inl (v18, v17))))))
def fX12_isChanged (m : dM) (p0 : Nat) (p1 : Int32) (p2 : Int32) : Option Int32 := dg (dkg p0 13) (dlet ((10 * p1) + p2 : Int32) (fun v1 => (fX12_isPart m p0 p1).bind (fun v3 => if v3 = 0 then dg (dIx v1 (dL 458)) (if (m.1 458 (Int32.toNatClampNeg (v1))) = 0 then some 0 else some 1) else (fX12_isDot m p0 p2).bind (fun v5 => if v5 = 0 then dg (dIx v1 (dL 458)) (if (m.1 458 (Int32.toNatClampNeg (v1))) = 0 then some 0 else some 1) else dg (dIx v1 (dL 458)) (if (m.1 458 (Int32.toNatClampNeg (v1))) = 0 then some 1 else (dlp (fun q => dP2 q (fun v7 v8 => fX12_isChanged_l70 m p0 p1 p2 v1 v7 v8)) dFl (0, 1)).bind (fun q => dP1 q (fun v21 => if v21 = 0 then some 1 else some 0)))))))
set_option maxHeartbeats 4000000 in
set_option maxRecDepth 100000 in
theorem kX12_isChanged (l : Launch) (g : dG) {m : dM} {p0 : Nat} {p1 : Int32} {p2 : Int32} {r0 : Int32} (h : fX12_isChanged m p0 p1 p2 = some r0) : dMet l g yX12_isChanged wsX12_isChanged (dRm 2 50) [.ref (dad g p0), .int p1, .int p2] m (dQI g r0 m) := by
  refine dof (cc := cX12_isChanged) (maxL := 7) (ret := (some .boolean)) _ (plainFor_of_name (by decide)) rfl (Nat.le_of_ble_eq_true rfl) ?_
  intro p e s mth below meth c S hr hlk hE H ls hP hS hl
  have S : CallFix p mth c cX12_isChanged 7 s _ wsX12_isChanged RX12 := S
  have hl : lv_has ls 7 [(0, .ref (dad g p0)), (1, .int p1), (2, .int p2)] := hl
  obtain ⟨locs, hlocs⟩ : ∃ z : List Loc, z = [] := ⟨_, rfl⟩
  rw [← hlocs] at hS ⊢
  have in12 : ∀ w ∈ wsX120, w ∈ wsX12_isChanged := by decide +kernel
  unfold fX12_isChanged at h
  obtain ⟨k0, h⟩ := d_g h
  have k0 := d_k k0
  refine lv_bipush (v := 10) S.1 S.2.1 dX12_isChanged_0 (by decide) ?_
  refine lv_iload_n S.1 S.2.1 dX12_isChanged_2 rfl (lv_at hl 1 rfl) ?_
  refine lv_imul S.1 S.2.1 dX12_isChanged_3 ?_
  refine lv_iload_n S.1 S.2.1 dX12_isChanged_4 rfl (lv_at hl 2 rfl) ?_
  refine lv_iadd S.1 S.2.1 dX12_isChanged_5 ?_
  refine lv_topi (fun v1 ev1 => ?_)
  have h := d_let ev1 h
  refine lv_istore_n (lv' := [(3, .int v1), (0, .ref (dad g p0)), (1, .int p1), (2, .int p2)]) S.1 S.2.1 dX12_isChanged_6 rfl hl (by decide) rfl (fun ls hl => ?_)
  refine lv_aload_n S.1 S.2.1 dX12_isChanged_7 rfl (lv_at hl 1 rfl) ?_
  refine lv_iload_n S.1 S.2.1 dX12_isChanged_8 rfl (lv_at hl 2 rfl) ?_
  obtain ⟨v3, hc2, h⟩ := d_b h
  refine dri (va_runV (As := [.int p1]) (rest := []) S (kX12_isPart l g hc2) (cwV 1 S.2.2.2.2 gX12_isChanged_X12_isPart rfl rfl rfl ynX12_isPart ⟨Nat.le_of_ble_eq_true rfl, Nat.le_of_ble_eq_true rfl⟩) (dpV hE hP hS (ci := 12) rfl (dat13 k0)) rfl rfl hl.1 rfl (lv_room (Nat.le_of_ble_eq_true rfl)) dX12_isChanged_9 ⟨Nat.le_of_ble_eq_true rfl, Nat.le_of_ble_eq_true rfl⟩) hS (fun H locs hP hS => ?_)
  refine lv_if_eq (tgt := 27) S.1 S.2.1 dX12_isChanged_12 (by decide) (fun cq => ?_) (fun cq => ?_)
  · have h := d_t cq h
    refine lv_iconst (v := 0) S.1 S.2.1 dX12_isChanged_27 (by decide) ?_
    refine lv_istore (lv' := [(4, .int 0), (3, .int v1), (0, .ref (dad g p0)), (1, .int p1), (2, .int p2)]) S.1 S.2.1 dX12_isChanged_28 hl (by decide) rfl (fun ls hl => ?_)
    refine lv_iload S.1 S.2.1 dX12_isChanged_30 (lv_at hl 0 rfl) ?_
    refine lv_if_eq (tgt := 44) S.1 S.2.1 dX12_isChanged_32 (by decide) (fun cq => ?_) (fun cq => ?_)
    · refine lv_iload S.1 S.2.1 dX12_isChanged_44 (lv_at hl 0 rfl) ?_
      refine lv_if_ne (tgt := 58) S.1 S.2.1 dX12_isChanged_46 (by decide) (fun cq => ?_) (fun cq => ?_)
      · exact absurd (by decide) cq
      · refine lv_aload_n S.1 S.2.1 dX12_isChanged_49 rfl (lv_at hl 2 rfl) ?_
        refine dgf12_16 S in12 hE hP k0 (S.2.2.2.2 (.fieldLink RX12 55 "DrillFieldModel" "published" "[Z") (List.mem_of_getElem? (i := 1) rfl)) dX12_isChanged_50 ?_
        refine lv_iload_n S.1 S.2.1 dX12_isChanged_53 rfl (lv_at hl 1 rfl) ?_
        obtain ⟨hi, h⟩ := d_g h
        refine d_zald S hE hP dk_458 hi dX12_isChanged_54 ?_
        refine lv_if_eq (tgt := 62) S.1 S.2.1 dX12_isChanged_55 (by decide) (fun cq => ?_) (fun cq => ?_)
        · have h := d_t cq h
          refine lv_iconst (v := 0) S.1 S.2.1 dX12_isChanged_62 (by decide) ?_
          obtain rfl := Option.some.inj h
          exact dti S hr hlk hE hP hS rfl dX12_isChanged_63
        · have h := d_f cq h
          refine lv_iconst (v := 1) S.1 S.2.1 dX12_isChanged_58 (by decide) ?_
          refine lv_goto (tgt := 63) S.1 S.2.1 dX12_isChanged_59 (by decide) ?_
          obtain rfl := Option.some.inj h
          exact dti S hr hlk hE hP hS rfl dX12_isChanged_63
    · exact absurd (by decide) cq
  · have h := d_f cq h
    refine lv_aload_n S.1 S.2.1 dX12_isChanged_15 rfl (lv_at hl 1 rfl) ?_
    refine lv_iload_n S.1 S.2.1 dX12_isChanged_16 rfl (lv_at hl 3 rfl) ?_
    obtain ⟨v5, hc4, h⟩ := d_b h
    refine dri (va_runV (As := [.int p2]) (rest := []) S (kX12_isDot l g hc4) (cwV 1 S.2.2.2.2 gX12_isChanged_X12_isDot rfl rfl rfl ynX12_isDot ⟨Nat.le_of_ble_eq_true rfl, Nat.le_of_ble_eq_true rfl⟩) (dpV hE hP hS (ci := 12) rfl (dat13 k0)) rfl rfl hl.1 rfl (lv_room (Nat.le_of_ble_eq_true rfl)) dX12_isChanged_17 ⟨Nat.le_of_ble_eq_true rfl, Nat.le_of_ble_eq_true rfl⟩) hS (fun H locs hP hS => ?_)
    refine lv_if_eq (tgt := 27) S.1 S.2.1 dX12_isChanged_20 (by decide) (fun cq => ?_) (fun cq => ?_)
    · have h := d_t cq h
      refine lv_iconst (v := 0) S.1 S.2.1 dX12_isChanged_27 (by decide) ?_
      refine lv_istore (lv' := [(4, .int 0), (3, .int v1), (0, .ref (dad g p0)), (1, .int p1), (2, .int p2)]) S.1 S.2.1 dX12_isChanged_28 hl (by decide) rfl (fun ls hl => ?_)
      refine lv_iload S.1 S.2.1 dX12_isChanged_30 (lv_at hl 0 rfl) ?_
      refine lv_if_eq (tgt := 44) S.1 S.2.1 dX12_isChanged_32 (by decide) (fun cq => ?_) (fun cq => ?_)
      · refine lv_iload S.1 S.2.1 dX12_isChanged_44 (lv_at hl 0 rfl) ?_
        refine lv_if_ne (tgt := 58) S.1 S.2.1 dX12_isChanged_46 (by decide) (fun cq => ?_) (fun cq => ?_)
        · exact absurd (by decide) cq
        · refine lv_aload_n S.1 S.2.1 dX12_isChanged_49 rfl (lv_at hl 2 rfl) ?_
          refine dgf12_16 S in12 hE hP k0 (S.2.2.2.2 (.fieldLink RX12 55 "DrillFieldModel" "published" "[Z") (List.mem_of_getElem? (i := 1) rfl)) dX12_isChanged_50 ?_
          refine lv_iload_n S.1 S.2.1 dX12_isChanged_53 rfl (lv_at hl 1 rfl) ?_
          obtain ⟨hi, h⟩ := d_g h
          refine d_zald S hE hP dk_458 hi dX12_isChanged_54 ?_
          refine lv_if_eq (tgt := 62) S.1 S.2.1 dX12_isChanged_55 (by decide) (fun cq => ?_) (fun cq => ?_)
          · have h := d_t cq h
            refine lv_iconst (v := 0) S.1 S.2.1 dX12_isChanged_62 (by decide) ?_
            obtain rfl := Option.some.inj h
            exact dti S hr hlk hE hP hS rfl dX12_isChanged_63
          · have h := d_f cq h
            refine lv_iconst (v := 1) S.1 S.2.1 dX12_isChanged_58 (by decide) ?_
            refine lv_goto (tgt := 63) S.1 S.2.1 dX12_isChanged_59 (by decide) ?_
            obtain rfl := Option.some.inj h
            exact dti S hr hlk hE hP hS rfl dX12_isChanged_63
      · exact absurd (by decide) cq
    · have h := d_f cq h
      refine lv_iconst (v := 1) S.1 S.2.1 dX12_isChanged_23 (by decide) ?_
      refine lv_goto (tgt := 28) S.1 S.2.1 dX12_isChanged_24 (by decide) ?_
      refine lv_istore (lv' := [(4, .int 1), (3, .int v1), (0, .ref (dad g p0)), (1, .int p1), (2, .int p2)]) S.1 S.2.1 dX12_isChanged_28 hl (by decide) rfl (fun ls hl => ?_)
      refine lv_iload S.1 S.2.1 dX12_isChanged_30 (lv_at hl 0 rfl) ?_
      refine lv_if_eq (tgt := 44) S.1 S.2.1 dX12_isChanged_32 (by decide) (fun cq => ?_) (fun cq => ?_)
      · exact absurd cq (by decide)
      · refine lv_aload_n S.1 S.2.1 dX12_isChanged_35 rfl (lv_at hl 2 rfl) ?_
        refine dgf12_16 S in12 hE hP k0 (S.2.2.2.2 (.fieldLink RX12 55 "DrillFieldModel" "published" "[Z") (List.mem_of_getElem? (i := 1) rfl)) dX12_isChanged_36 ?_
        refine lv_iload_n S.1 S.2.1 dX12_isChanged_39 rfl (lv_at hl 1 rfl) ?_
        obtain ⟨hi, h⟩ := d_g h
        refine d_zald S hE hP dk_458 hi dX12_isChanged_40 ?_
        refine lv_if_ne (tgt := 64) S.1 S.2.1 dX12_isChanged_41 (by decide) (fun cq => ?_) (fun cq => ?_)
        · have h := d_f cq h
          refine lv_iconst (v := 1) S.1 S.2.1 dX12_isChanged_64 (by decide) ?_
          refine lv_istore (lv' := [(5, .int 1), (4, .int 1), (3, .int v1), (0, .ref (dad g p0)), (1, .int p1), (2, .int p2)]) S.1 S.2.1 dX12_isChanged_65 hl (by decide) rfl (fun ls hl => ?_)
          refine lv_iconst (v := 0) S.1 S.2.1 dX12_isChanged_67 (by decide) ?_
          refine lv_istore (lv' := [(6, .int 0), (5, .int 1), (4, .int 1), (3, .int v1), (0, .ref (dad g p0)), (1, .int p1), (2, .int p2)]) S.1 S.2.1 dX12_isChanged_68 hl (by decide) rfl (fun ls hl => ?_)
          obtain ⟨qL6, hqL6, h⟩ := d_b h
          refine d_lp (Hd := fun q => match q with | (v7, v8) => ∀ (H : Heap) (locs : List Loc) (ls : Array Slot), va_P g.1 vwCl (dws g m) H → va_S (dA g) s.heap H locs → lv_has ls 7 [(6, .int v7), (5, .int v8), (3, .int v1), (0, .ref (dad g p0)), (1, .int p1), (2, .int p2)] → W p l e (headSpec wsX12_isChanged (dRm 2 50)).room s mth (([.ref (dad g p0), .int p1, .int p2] : List Value).toArray) below meth c H locs 0 0 (MQ below (dQI g r0 m) (([.ref (dad g p0), .int p1, .int p2] : List Value).toArray) s 0 0 (dA g)) (F0 mth 70 ls [])) (K := fun q => (fun (v21 : _) => ∀ (H : Heap) (locs : List Loc) (ls : Array Slot), va_P g.1 vwCl (dws g m) H → va_S (dA g) s.heap H locs → lv_has ls 7 [(5, .int v21)] → W p l e (headSpec wsX12_isChanged (dRm 2 50)).room s mth (([.ref (dad g p0), .int p1, .int p2] : List Value).toArray) below meth c H locs 0 0 (MQ below (dQI g r0 m) (([.ref (dad g p0), .int p1, .int p2] : List Value).toArray) s 0 0 (dA g)) (F0 mth 114 ls [])) q) ?_ dFl _ qL6 hqL6 ?_ H locs ls hP hS (lv_sub hl [0, 1, 3, 4, 5, 6] rfl)
          · intro q o h hCL6 hEL6
            obtain ⟨v7, v8⟩ := q
            have h : fX12_isChanged_l70 m p0 p1 p2 v1 v7 v8 = some o := h
            intro H locs ls hP hS hl
            have hP : va_P g.1 vwCl (dws g m) H := hP
            have hl : lv_has ls 7 [(6, .int v7), (5, .int v8), (3, .int v1), (0, .ref (dad g p0)), (1, .int p1), (2, .int p2)] := hl
            unfold fX12_isChanged_l70 at h
            refine lv_iload S.1 S.2.1 dX12_isChanged_70 (lv_at hl 0 rfl) ?_
            refine lv_iconst (v := 4) S.1 S.2.1 dX12_isChanged_72 (by decide) ?_
            refine lv_icmp_ge (tgt := 114) S.1 S.2.1 dX12_isChanged_73 (by decide) (fun cq => ?_) (fun cq => ?_)
            · have h := d_t cq h
              obtain rfl := Option.some.inj h
              exact hEL6 _ rfl H locs ls hP hS (lv_sub hl [1] rfl)
            · have h := d_f cq h
              refine lv_iload S.1 S.2.1 dX12_isChanged_76 (lv_at hl 1 rfl) ?_
              refine lv_aload_n S.1 S.2.1 dX12_isChanged_78 rfl (lv_at hl 3 rfl) ?_
              refine dgf12_15 S in12 hE hP k0 (S.2.2.2.2 (.fieldLink RX12 52 "DrillFieldModel" "pages" "[I") (List.mem_of_getElem? (i := 2) rfl)) dX12_isChanged_79 ?_
              refine lv_iconst (v := 4) S.1 S.2.1 dX12_isChanged_82 (by decide) ?_
              refine lv_iload_n S.1 S.2.1 dX12_isChanged_83 rfl (lv_at hl 2 rfl) ?_
              refine lv_imul S.1 S.2.1 dX12_isChanged_84 ?_
              refine lv_iload S.1 S.2.1 dX12_isChanged_85 (lv_at hl 0 rfl) ?_
              refine lv_iadd S.1 S.2.1 dX12_isChanged_87 ?_
              obtain ⟨hi, h⟩ := d_g h
              refine d_iald S hE hP dk_457 hi dX12_isChanged_88 ?_
              refine lv_aload_n S.1 S.2.1 dX12_isChanged_89 rfl (lv_at hl 3 rfl) ?_
              refine lv_iload_n S.1 S.2.1 dX12_isChanged_90 rfl (lv_at hl 4 rfl) ?_
              refine lv_iload_n S.1 S.2.1 dX12_isChanged_91 rfl (lv_at hl 5 rfl) ?_
              refine lv_iload S.1 S.2.1 dX12_isChanged_92 (lv_at hl 0 rfl) ?_
              obtain ⟨v16, hc15, h⟩ := d_b h
              refine dri (va_runV (As := [.int p1, .int p2, .int v7]) (rest := [.int (m.1 457 (Int32.toNatClampNeg ((4 * v1) + v7))), .int v8]) S (kX12_says l g hc15) (cwV 3 S.2.2.2.2 gX12_isChanged_X12_says rfl rfl rfl ynX12_says ⟨Nat.le_of_ble_eq_true rfl, Nat.le_of_ble_eq_true rfl⟩) (dpV hE hP hS (ci := 12) rfl (dat13 k0)) rfl rfl hl.1 rfl (lv_room (Nat.le_of_ble_eq_true rfl)) dX12_isChanged_94 ⟨Nat.le_of_ble_eq_true rfl, Nat.le_of_ble_eq_true rfl⟩) hS (fun H locs hP hS => ?_)
              refine lv_icmp_ne (tgt := 104) S.1 S.2.1 dX12_isChanged_97 (by decide) (fun cq => ?_) (fun cq => ?_)
              · have h := d_f cq h
                refine lv_iconst (v := 0) S.1 S.2.1 dX12_isChanged_104 (by decide) ?_
                refine lv_iand S.1 S.2.1 dX12_isChanged_105 ?_
                refine lv_topi (fun v17 ev17 => ?_)
                have h := d_let ev17 h
                refine lv_istore (lv' := [(5, .int v17), (6, .int v7), (3, .int v1), (0, .ref (dad g p0)), (1, .int p1), (2, .int p2)]) S.1 S.2.1 dX12_isChanged_106 hl (by decide) rfl (fun ls hl => ?_)
                obtain ⟨v18, ev18⟩ : ∃ z : Int32, z = v7 + 1 := ⟨_, rfl⟩
                have h := d_let ev18 h
                refine lv_iinc (v := v18) (lv' := [(6, .int v18), (5, .int v17), (3, .int v1), (0, .ref (dad g p0)), (1, .int p1), (2, .int p2)]) S.1 S.2.1 dX12_isChanged_108 hl (k := 1) rfl (by rw [ev18]; rfl) (by decide) rfl (fun ls hl => ?_)
                refine lv_goto (tgt := 70) S.1 S.2.1 dX12_isChanged_111 (by decide) ?_
                obtain rfl := Option.some.inj h
                exact hCL6 _ rfl H locs ls hP hS (lv_sub hl [0, 1, 2, 3, 4, 5] rfl)
              · have h := d_t cq h
                refine lv_iconst (v := 1) S.1 S.2.1 dX12_isChanged_100 (by decide) ?_
                refine lv_goto (tgt := 105) S.1 S.2.1 dX12_isChanged_101 (by decide) ?_
                refine lv_iand S.1 S.2.1 dX12_isChanged_105 ?_
                refine lv_topi (fun v19 ev19 => ?_)
                have h := d_let ev19 h
                refine lv_istore (lv' := [(5, .int v19), (6, .int v7), (3, .int v1), (0, .ref (dad g p0)), (1, .int p1), (2, .int p2)]) S.1 S.2.1 dX12_isChanged_106 hl (by decide) rfl (fun ls hl => ?_)
                obtain ⟨v20, ev20⟩ : ∃ z : Int32, z = v7 + 1 := ⟨_, rfl⟩
                have h := d_let ev20 h
                refine lv_iinc (v := v20) (lv' := [(6, .int v20), (5, .int v19), (3, .int v1), (0, .ref (dad g p0)), (1, .int p1), (2, .int p2)]) S.1 S.2.1 dX12_isChanged_108 hl (k := 1) rfl (by rw [ev20]; rfl) (by decide) rfl (fun ls hl => ?_)
                refine lv_goto (tgt := 70) S.1 S.2.1 dX12_isChanged_111 (by decide) ?_
                obtain rfl := Option.some.inj h
                exact hCL6 _ rfl H locs ls hP hS (lv_sub hl [0, 1, 2, 3, 4, 5] rfl)
          · obtain ⟨v21, rfl⟩ : ∃ z, z = qL6 := ⟨_, rfl⟩
            have h := d_p1 h
            intro H locs ls hP hS hl
            have hP : va_P g.1 vwCl (dws g m) H := hP
            have hl : lv_has ls 7 [(5, .int v21)] := hl
            refine lv_iload S.1 S.2.1 dX12_isChanged_114 (lv_at hl 0 rfl) ?_
            refine lv_if_ne (tgt := 123) S.1 S.2.1 dX12_isChanged_116 (by decide) (fun cq => ?_) (fun cq => ?_)
            · have h := d_f cq h
              refine lv_iconst (v := 0) S.1 S.2.1 dX12_isChanged_123 (by decide) ?_
              obtain rfl := Option.some.inj h
              exact dti S hr hlk hE hP hS rfl dX12_isChanged_124
            · have h := d_t cq h
              refine lv_iconst (v := 1) S.1 S.2.1 dX12_isChanged_119 (by decide) ?_
              refine lv_goto (tgt := 124) S.1 S.2.1 dX12_isChanged_120 (by decide) ?_
              obtain rfl := Option.some.inj h
              exact dti S hr hlk hE hP hS rfl dX12_isChanged_124
        · have h := d_t cq h
          refine lv_iload S.1 S.2.1 dX12_isChanged_44 (lv_at hl 0 rfl) ?_
          refine lv_if_ne (tgt := 58) S.1 S.2.1 dX12_isChanged_46 (by decide) (fun cq => ?_) (fun cq => ?_)
          · refine lv_iconst (v := 1) S.1 S.2.1 dX12_isChanged_58 (by decide) ?_
            refine lv_goto (tgt := 63) S.1 S.2.1 dX12_isChanged_59 (by decide) ?_
            obtain rfl := Option.some.inj h
            exact dti S hr hlk hE hP hS rfl dX12_isChanged_63
          · exact absurd cq (by decide)
set_option maxRecDepth 20000 in
theorem ggX12_changes_X12_isChanged : GoodIn wsX12_changes wsX12_isChanged := goodIn_r _ [5, 6, 7, 8, 9, 10, 4, 11, 12, 13, 14, 15, 16, 17, 18, 19, 20, 21, 22, 23, 24, 25, 26, 27, 28, 29, 30, 31, 32, 33, 34, 35, 36, 37, 38, 39, 40, 41, 42, 43, 44, 45, 46, 47, 48, 49, 50, 51, 52, 53, 54, 55, 56, 57, 58, 59, 60, 61, 62, 63, 64, 65, 66, 67] (by decide +kernel) (by decide +kernel)
set_option maxRecDepth 20000 in
theorem gX12_changes_X12_isChanged : GoodIn wsX12_changes (wsV RX12 210 RX12 yX12_isChanged wsX12_isChanged) := goodIn_app (goodIn_of _ (by decide +kernel)) ggX12_changes_X12_isChanged
theorem dX12_changes_0 : decode cX12_changes 0 = .ok (.iconst 0, 1) := by decide +kernel
theorem dX12_changes_1 : decode cX12_changes 1 = .ok (.istore_n 1, 1) := by decide +kernel
theorem dX12_changes_2 : decode cX12_changes 2 = .ok (.iconst 0, 1) := by decide +kernel
theorem dX12_changes_3 : decode cX12_changes 3 = .ok (.istore_n 2, 1) := by decide +kernel
theorem dX12_changes_4 : decode cX12_changes 4 = .ok (.iload_n 2, 1) := by decide +kernel
theorem dX12_changes_5 : decode cX12_changes 5 = .ok (.bipush 12, 2) := by decide +kernel
theorem dX12_changes_7 : decode cX12_changes 7 = .ok (.if_icmp .ge 40, 3) := by decide +kernel
theorem dX12_changes_10 : decode cX12_changes 10 = .ok (.iconst 0, 1) := by decide +kernel
theorem dX12_changes_11 : decode cX12_changes 11 = .ok (.istore_n 3, 1) := by decide +kernel
theorem dX12_changes_12 : decode cX12_changes 12 = .ok (.iload_n 3, 1) := by decide +kernel
theorem dX12_changes_13 : decode cX12_changes 13 = .ok (.bipush 10, 2) := by decide +kernel
theorem dX12_changes_15 : decode cX12_changes 15 = .ok (.if_icmp .ge 26, 3) := by decide +kernel
theorem dX12_changes_18 : decode cX12_changes 18 = .ok (.iload_n 1, 1) := by decide +kernel
theorem dX12_changes_19 : decode cX12_changes 19 = .ok (.aload_n 0, 1) := by decide +kernel
theorem dX12_changes_20 : decode cX12_changes 20 = .ok (.iload_n 2, 1) := by decide +kernel
theorem dX12_changes_21 : decode cX12_changes 21 = .ok (.iload_n 3, 1) := by decide +kernel
theorem dX12_changes_22 : decode cX12_changes 22 = .ok (.invokevirtual 210, 3) := by decide +kernel
theorem dX12_changes_25 : decode cX12_changes 25 = .ok (.ifCond .eq 7, 3) := by decide +kernel
theorem dX12_changes_28 : decode cX12_changes 28 = .ok (.iconst 1, 1) := by decide +kernel
theorem dX12_changes_29 : decode cX12_changes 29 = .ok (.goto 4, 3) := by decide +kernel
theorem dX12_changes_32 : decode cX12_changes 32 = .ok (.iconst 0, 1) := by decide +kernel
theorem dX12_changes_33 : decode cX12_changes 33 = .ok (.iadd, 1) := by decide +kernel
theorem dX12_changes_34 : decode cX12_changes 34 = .ok (.istore_n 1, 1) := by decide +kernel
theorem dX12_changes_35 : decode cX12_changes 35 = .ok (.iinc 3 1, 3) := by decide +kernel
theorem dX12_changes_38 : decode cX12_changes 38 = .ok (.goto (-26), 3) := by decide +kernel
theorem dX12_changes_41 : decode cX12_changes 41 = .ok (.iinc 2 1, 3) := by decide +kernel
theorem dX12_changes_44 : decode cX12_changes 44 = .ok (.goto (-40), 3) := by decide +kernel
theorem dX12_changes_47 : decode cX12_changes 47 = .ok (.iload_n 1, 1) := by decide +kernel
theorem dX12_changes_48 : decode cX12_changes 48 = .ok (.ireturn, 1) := by decide +kernel
def fX12_changes_l12 (m : dM) (p0 : Nat) (v2 : Int32) (v22 : Int32) (v23 : Int32) : Option ((Int32 × Int32) ⊕ Int32) := if 10 ≤ v22 then some (.inr v23) else (fX12_isChanged m p0 v2 v22).bind (fun v31 => if v31 = 0 then dlet (v23 + 0 : Int32) (fun v32 => dlet (v22 + 1 : Int32) (fun v33 => some (.inl (v33, v32)))) else dlet (v23 + 1 : Int32) (fun v34 => dlet (v22 + 1 : Int32) (fun v35 => some (.inl (v35, v34)))))
def fX12_changes_l4 (m : dM) (p0 : Nat) (v2 : Int32) (v3 : Int32) : Option ((Int32 × Int32) ⊕ Int32) := if 12 ≤ v2 then some (.inr v3) else (dlp (fun q => dP2 q (fun v22 v23 => fX12_changes_l12 m p0 v2 v22 v23)) dFl (0, v3)).bind (fun q => dP1 q (fun v36 => dlet (v2 + 1 : Int32) (fun v37 => some (.inl (v37, v36)))))
def fX12_changes (m : dM) (p0 : Nat) : Option Int32 := dg (dkg p0 13) ((dlp (fun q => dP2 q (fun v2 v3 => fX12_changes_l4 m p0 v2 v3)) dFl (0, 0)).bind (fun q => dP1 q (fun v38 => some v38)))
set_option maxHeartbeats 4000000 in
set_option maxRecDepth 100000 in
theorem kX12_changes (l : Launch) (g : dG) {m : dM} {p0 : Nat} {r0 : Int32} (h : fX12_changes m p0 = some r0) : dMet l g yX12_changes wsX12_changes (dRm 3 76) [.ref (dad g p0)] m (dQI g r0 m) := by
  refine dof (cc := cX12_changes) (maxL := 4) (ret := (some .int)) _ (plainFor_of_name (by decide)) rfl (Nat.le_of_ble_eq_true rfl) ?_
  intro p e s mth below meth c S hr hlk hE H ls hP hS hl
  have S : CallFix p mth c cX12_changes 4 s _ wsX12_changes RX12 := S
  have hl : lv_has ls 4 [(0, .ref (dad g p0))] := hl
  obtain ⟨locs, hlocs⟩ : ∃ z : List Loc, z = [] := ⟨_, rfl⟩
  rw [← hlocs] at hS ⊢
  unfold fX12_changes at h
  obtain ⟨k0, h⟩ := d_g h
  have k0 := d_k k0
  refine lv_iconst (v := 0) S.1 S.2.1 dX12_changes_0 (by decide) ?_
  refine lv_istore_n (lv' := [(1, .int 0), (0, .ref (dad g p0))]) S.1 S.2.1 dX12_changes_1 rfl hl (by decide) rfl (fun ls hl => ?_)
  refine lv_iconst (v := 0) S.1 S.2.1 dX12_changes_2 (by decide) ?_
  refine lv_istore_n (lv' := [(2, .int 0), (1, .int 0), (0, .ref (dad g p0))]) S.1 S.2.1 dX12_changes_3 rfl hl (by decide) rfl (fun ls hl => ?_)
  obtain ⟨qL1, hqL1, h⟩ := d_b h
  refine d_lp (Hd := fun q => match q with | (v2, v3) => ∀ (H : Heap) (locs : List Loc) (ls : Array Slot), va_P g.1 vwCl (dws g m) H → va_S (dA g) s.heap H locs → lv_has ls 4 [(2, .int v2), (1, .int v3), (0, .ref (dad g p0))] → W p l e (headSpec wsX12_changes (dRm 3 76)).room s mth (([.ref (dad g p0)] : List Value).toArray) below meth c H locs 0 0 (MQ below (dQI g r0 m) (([.ref (dad g p0)] : List Value).toArray) s 0 0 (dA g)) (F0 mth 4 ls [])) (K := fun q => (fun (v38 : _) => ∀ (H : Heap) (locs : List Loc) (ls : Array Slot), va_P g.1 vwCl (dws g m) H → va_S (dA g) s.heap H locs → lv_has ls 4 [(1, .int v38)] → W p l e (headSpec wsX12_changes (dRm 3 76)).room s mth (([.ref (dad g p0)] : List Value).toArray) below meth c H locs 0 0 (MQ below (dQI g r0 m) (([.ref (dad g p0)] : List Value).toArray) s 0 0 (dA g)) (F0 mth 47 ls [])) q) ?_ dFl _ qL1 hqL1 ?_ H locs ls hP hS (lv_sub hl [0, 1, 2] rfl)
  · intro q o h hCL1 hEL1
    obtain ⟨v2, v3⟩ := q
    have h : fX12_changes_l4 m p0 v2 v3 = some o := h
    intro H locs ls hP hS hl
    have hP : va_P g.1 vwCl (dws g m) H := hP
    have hl : lv_has ls 4 [(2, .int v2), (1, .int v3), (0, .ref (dad g p0))] := hl
    unfold fX12_changes_l4 at h
    refine lv_iload_n S.1 S.2.1 dX12_changes_4 rfl (lv_at hl 0 rfl) ?_
    refine lv_bipush (v := 12) S.1 S.2.1 dX12_changes_5 (by decide) ?_
    refine lv_icmp_ge (tgt := 47) S.1 S.2.1 dX12_changes_7 (by decide) (fun cq => ?_) (fun cq => ?_)
    · have h := d_t cq h
      obtain rfl := Option.some.inj h
      exact hEL1 _ rfl H locs ls hP hS (lv_sub hl [1] rfl)
    · have h := d_f cq h
      refine lv_iconst (v := 0) S.1 S.2.1 dX12_changes_10 (by decide) ?_
      refine lv_istore_n (lv' := [(3, .int 0), (2, .int v2), (1, .int v3), (0, .ref (dad g p0))]) S.1 S.2.1 dX12_changes_11 rfl hl (by decide) rfl (fun ls hl => ?_)
      obtain ⟨qL21, hqL21, h⟩ := d_b h
      refine d_lp (Hd := fun q => match q with | (v22, v23) => ∀ (H : Heap) (locs : List Loc) (ls : Array Slot), va_P g.1 vwCl (dws g m) H → va_S (dA g) s.heap H locs → lv_has ls 4 [(3, .int v22), (2, .int v2), (1, .int v23), (0, .ref (dad g p0))] → W p l e (headSpec wsX12_changes (dRm 3 76)).room s mth (([.ref (dad g p0)] : List Value).toArray) below meth c H locs 0 0 (MQ below (dQI g r0 m) (([.ref (dad g p0)] : List Value).toArray) s 0 0 (dA g)) (F0 mth 12 ls [])) (K := fun q => (fun (v36 : _) => ∀ (H : Heap) (locs : List Loc) (ls : Array Slot), va_P g.1 vwCl (dws g m) H → va_S (dA g) s.heap H locs → lv_has ls 4 [(0, .ref (dad g p0)), (1, .int v36), (2, .int v2)] → W p l e (headSpec wsX12_changes (dRm 3 76)).room s mth (([.ref (dad g p0)] : List Value).toArray) below meth c H locs 0 0 (MQ below (dQI g r0 m) (([.ref (dad g p0)] : List Value).toArray) s 0 0 (dA g)) (F0 mth 41 ls [])) q) ?_ dFl _ qL21 hqL21 ?_ H locs ls hP hS (lv_sub hl [0, 1, 2, 3] rfl)
      · intro q o h hCL21 hEL21
        obtain ⟨v22, v23⟩ := q
        have h : fX12_changes_l12 m p0 v2 v22 v23 = some o := h
        intro H locs ls hP hS hl
        have hP : va_P g.1 vwCl (dws g m) H := hP
        have hl : lv_has ls 4 [(3, .int v22), (2, .int v2), (1, .int v23), (0, .ref (dad g p0))] := hl
        unfold fX12_changes_l12 at h
        refine lv_iload_n S.1 S.2.1 dX12_changes_12 rfl (lv_at hl 0 rfl) ?_
        refine lv_bipush (v := 10) S.1 S.2.1 dX12_changes_13 (by decide) ?_
        refine lv_icmp_ge (tgt := 41) S.1 S.2.1 dX12_changes_15 (by decide) (fun cq => ?_) (fun cq => ?_)
        · have h := d_t cq h
          obtain rfl := Option.some.inj h
          exact hEL21 _ rfl H locs ls hP hS (lv_sub hl [3, 2, 1] rfl)
        · have h := d_f cq h
          refine lv_iload_n S.1 S.2.1 dX12_changes_18 rfl (lv_at hl 2 rfl) ?_
          refine lv_aload_n S.1 S.2.1 dX12_changes_19 rfl (lv_at hl 3 rfl) ?_
          refine lv_iload_n S.1 S.2.1 dX12_changes_20 rfl (lv_at hl 1 rfl) ?_
          refine lv_iload_n S.1 S.2.1 dX12_changes_21 rfl (lv_at hl 0 rfl) ?_
          obtain ⟨v31, hc30, h⟩ := d_b h
          refine dri (va_runV (As := [.int v2, .int v22]) (rest := [.int v23]) S (kX12_isChanged l g hc30) (cwV 2 S.2.2.2.2 gX12_changes_X12_isChanged rfl rfl rfl ynX12_isChanged ⟨Nat.le_of_ble_eq_true rfl, Nat.le_of_ble_eq_true rfl⟩) (dpV hE hP hS (ci := 12) rfl (dat13 k0)) rfl rfl hl.1 rfl (lv_room (Nat.le_of_ble_eq_true rfl)) dX12_changes_22 ⟨Nat.le_of_ble_eq_true rfl, Nat.le_of_ble_eq_true rfl⟩) hS (fun H locs hP hS => ?_)
          refine lv_if_eq (tgt := 32) S.1 S.2.1 dX12_changes_25 (by decide) (fun cq => ?_) (fun cq => ?_)
          · have h := d_t cq h
            refine lv_iconst (v := 0) S.1 S.2.1 dX12_changes_32 (by decide) ?_
            refine lv_iadd S.1 S.2.1 dX12_changes_33 ?_
            refine lv_topi (fun v32 ev32 => ?_)
            have h := d_let ev32 h
            refine lv_istore_n (lv' := [(1, .int v32), (3, .int v22), (2, .int v2), (0, .ref (dad g p0))]) S.1 S.2.1 dX12_changes_34 rfl hl (by decide) rfl (fun ls hl => ?_)
            obtain ⟨v33, ev33⟩ : ∃ z : Int32, z = v22 + 1 := ⟨_, rfl⟩
            have h := d_let ev33 h
            refine lv_iinc (v := v33) (lv' := [(3, .int v33), (1, .int v32), (2, .int v2), (0, .ref (dad g p0))]) S.1 S.2.1 dX12_changes_35 hl (k := 1) rfl (by rw [ev33]; rfl) (by decide) rfl (fun ls hl => ?_)
            refine lv_goto (tgt := 12) S.1 S.2.1 dX12_changes_38 (by decide) ?_
            obtain rfl := Option.some.inj h
            exact hCL21 _ rfl H locs ls hP hS (lv_sub hl [0, 2, 1, 3] rfl)
          · have h := d_f cq h
            refine lv_iconst (v := 1) S.1 S.2.1 dX12_changes_28 (by decide) ?_
            refine lv_goto (tgt := 33) S.1 S.2.1 dX12_changes_29 (by decide) ?_
            refine lv_iadd S.1 S.2.1 dX12_changes_33 ?_
            refine lv_topi (fun v34 ev34 => ?_)
            have h := d_let ev34 h
            refine lv_istore_n (lv' := [(1, .int v34), (3, .int v22), (2, .int v2), (0, .ref (dad g p0))]) S.1 S.2.1 dX12_changes_34 rfl hl (by decide) rfl (fun ls hl => ?_)
            obtain ⟨v35, ev35⟩ : ∃ z : Int32, z = v22 + 1 := ⟨_, rfl⟩
            have h := d_let ev35 h
            refine lv_iinc (v := v35) (lv' := [(3, .int v35), (1, .int v34), (2, .int v2), (0, .ref (dad g p0))]) S.1 S.2.1 dX12_changes_35 hl (k := 1) rfl (by rw [ev35]; rfl) (by decide) rfl (fun ls hl => ?_)
            refine lv_goto (tgt := 12) S.1 S.2.1 dX12_changes_38 (by decide) ?_
            obtain rfl := Option.some.inj h
            exact hCL21 _ rfl H locs ls hP hS (lv_sub hl [0, 2, 1, 3] rfl)
      · obtain ⟨v36, rfl⟩ : ∃ z, z = qL21 := ⟨_, rfl⟩
        have h := d_p1 h
        intro H locs ls hP hS hl
        have hP : va_P g.1 vwCl (dws g m) H := hP
        have hl : lv_has ls 4 [(0, .ref (dad g p0)), (1, .int v36), (2, .int v2)] := hl
        obtain ⟨v37, ev37⟩ : ∃ z : Int32, z = v2 + 1 := ⟨_, rfl⟩
        have h := d_let ev37 h
        refine lv_iinc (v := v37) (lv' := [(2, .int v37), (0, .ref (dad g p0)), (1, .int v36)]) S.1 S.2.1 dX12_changes_41 hl (k := 2) rfl (by rw [ev37]; rfl) (by decide) rfl (fun ls hl => ?_)
        refine lv_goto (tgt := 4) S.1 S.2.1 dX12_changes_44 (by decide) ?_
        obtain rfl := Option.some.inj h
        exact hCL1 _ rfl H locs ls hP hS (lv_sub hl [0, 2, 1] rfl)
  · obtain ⟨v38, rfl⟩ : ∃ z, z = qL1 := ⟨_, rfl⟩
    have h := d_p1 h
    intro H locs ls hP hS hl
    have hP : va_P g.1 vwCl (dws g m) H := hP
    have hl : lv_has ls 4 [(1, .int v38)] := hl
    refine lv_iload_n S.1 S.2.1 dX12_changes_47 rfl (lv_at hl 0 rfl) ?_
    obtain rfl := Option.some.inj h
    exact dti S hr hlk hE hP hS rfl dX12_changes_48
set_option maxRecDepth 20000 in
theorem ggX12_changed_X12_changes : GoodIn wsX12_changed wsX12_changes := goodIn_r _ [6, 7, 8, 9, 5, 10, 11, 12, 13, 14, 15, 16, 17, 18, 19, 20, 21, 22, 23, 24, 25, 26, 27, 28, 29, 30, 31, 32, 33, 34, 35, 36, 37, 38, 39, 40, 41, 42, 43, 44, 45, 46, 47, 48, 49, 50, 51, 52, 53, 54, 55, 56, 57, 58, 59, 60, 61, 62, 63, 64, 65, 66, 67, 68, 69, 70, 71, 72] (by decide +kernel) (by decide +kernel)
set_option maxRecDepth 20000 in
theorem gX12_changed_X12_changes : GoodIn wsX12_changed (wsV RX12 213 RX12 yX12_changes wsX12_changes) := goodIn_app (goodIn_of _ (by decide +kernel)) ggX12_changed_X12_changes
theorem dX12_changed_0 : decode cX12_changed 0 = .ok (.aload_n 0, 1) := by decide +kernel
theorem dX12_changed_1 : decode cX12_changed 1 = .ok (.iconst 0, 1) := by decide +kernel
theorem dX12_changed_2 : decode cX12_changed 2 = .ok (.putfield 76, 3) := by decide +kernel
theorem dX12_changed_5 : decode cX12_changed 5 = .ok (.aload_n 0, 1) := by decide +kernel
theorem dX12_changed_6 : decode cX12_changed 6 = .ok (.invokevirtual 213, 3) := by decide +kernel
theorem dX12_changed_9 : decode cX12_changed 9 = .ok (.ireturn, 1) := by decide +kernel
def fX12_changed (m : dM) (p0 : Nat) : Option (Int32 × dM) := dg (dkg p0 13) (dlet (d1 m p0 25 0) (fun m1 => (fX12_changes m1 p0).bind (fun v3 => some (v3, m1))))
set_option maxHeartbeats 4000000 in
set_option maxRecDepth 100000 in
theorem kX12_changed (l : Launch) (g : dG) {m : dM} {p0 : Nat} {r0 : Int32} {m0 : dM} (h : fX12_changed m p0 = some (r0, m0)) : dMet l g yX12_changed wsX12_changed (dRm 4 99) [.ref (dad g p0)] m (dQI g r0 m0) := by
  refine dof (cc := cX12_changed) (maxL := 1) (ret := (some .int)) _ (plainFor_of_name (by decide)) rfl (Nat.le_of_ble_eq_true rfl) ?_
  intro p e s mth below meth c S hr hlk hE H ls hP hS hl
  have S : CallFix p mth c cX12_changed 1 s _ wsX12_changed RX12 := S
  have hl : lv_has ls 1 [(0, .ref (dad g p0))] := hl
  obtain ⟨locs, hlocs⟩ : ∃ z : List Loc, z = [] := ⟨_, rfl⟩
  rw [← hlocs] at hS ⊢
  have in12 : ∀ w ∈ wsX120, w ∈ wsX12_changed := by decide +kernel
  unfold fX12_changed at h
  obtain ⟨k0, h⟩ := d_g h
  have k0 := d_k k0
  refine lv_aload_n S.1 S.2.1 dX12_changed_0 rfl (lv_at hl 0 rfl) ?_
  refine lv_iconst (v := 0) S.1 S.2.1 dX12_changed_1 (by decide) ?_
  refine dpf12_25 S in12 hE hP hS k0 (S.2.2.2.2 (.fieldLink RX12 76 "DrillFieldModel" "thrown" "I") (List.mem_of_getElem? (i := 1) rfl)) dX12_changed_2 (fun H locs hP hS => ?_)
  obtain ⟨m1, em1⟩ : ∃ z : dM, z = d1 m p0 25 0 := ⟨_, rfl⟩
  have h := d_let em1 h
  rw [← em1] at hP
  refine lv_aload_n S.1 S.2.1 dX12_changed_5 rfl (lv_at hl 0 rfl) ?_
  obtain ⟨v3, hc2, h⟩ := d_b h
  refine dri (va_runV (As := []) (rest := []) S (kX12_changes l g hc2) (cwV 0 S.2.2.2.2 gX12_changed_X12_changes rfl rfl rfl ynX12_changes ⟨Nat.le_of_ble_eq_true rfl, Nat.le_of_ble_eq_true rfl⟩) (dpV hE hP hS (ci := 12) rfl (dat13 k0)) rfl rfl hl.1 rfl (lv_room (Nat.le_of_ble_eq_true rfl)) dX12_changed_6 ⟨Nat.le_of_ble_eq_true rfl, Nat.le_of_ble_eq_true rfl⟩) hS (fun H locs hP hS => ?_)
  obtain ⟨rfl, rfl⟩ := Prod.mk.inj (Option.some.inj h)
  exact dti S hr hlk hE hP hS rfl dX12_changed_9
set_option maxRecDepth 20000 in
theorem ggX12_clock_X12_isIn : GoodIn wsX12_clock wsX12_isIn := goodIn_r _ [7] (by decide +kernel) (by decide +kernel)
set_option maxRecDepth 20000 in
theorem gX12_clock_X12_isIn : GoodIn wsX12_clock (va_wsS RX12 79 yX12_isIn wsX12_isIn) := goodIn_app (goodIn_of _ (by decide +kernel)) ggX12_clock_X12_isIn
theorem dX12_clock_0 : decode cX12_clock 0 = .ok (.aload_n 0, 1) := by decide +kernel
theorem dX12_clock_1 : decode cX12_clock 1 = .ok (.iload_n 1, 1) := by decide +kernel
theorem dX12_clock_2 : decode cX12_clock 2 = .ok (.iconst 0, 1) := by decide +kernel
theorem dX12_clock_3 : decode cX12_clock 3 = .ok (.sipush 9999, 3) := by decide +kernel
theorem dX12_clock_6 : decode cX12_clock 6 = .ok (.invokestatic 79, 3) := by decide +kernel
theorem dX12_clock_9 : decode cX12_clock 9 = .ok (.ifCond .eq 18, 3) := by decide +kernel
theorem dX12_clock_12 : decode cX12_clock 12 = .ok (.iload_n 2, 1) := by decide +kernel
theorem dX12_clock_13 : decode cX12_clock 13 = .ok (.iload_n 1, 1) := by decide +kernel
theorem dX12_clock_14 : decode cX12_clock 14 = .ok (.sipush 9999, 3) := by decide +kernel
theorem dX12_clock_17 : decode cX12_clock 17 = .ok (.invokestatic 79, 3) := by decide +kernel
theorem dX12_clock_20 : decode cX12_clock 20 = .ok (.ifCond .eq 7, 3) := by decide +kernel
theorem dX12_clock_23 : decode cX12_clock 23 = .ok (.iconst 0, 1) := by decide +kernel
theorem dX12_clock_24 : decode cX12_clock 24 = .ok (.goto 4, 3) := by decide +kernel
theorem dX12_clock_27 : decode cX12_clock 27 = .ok (.iconst 1, 1) := by decide +kernel
theorem dX12_clock_28 : decode cX12_clock 28 = .ok (.putfield 76, 3) := by decide +kernel
theorem dX12_clock_31 : decode cX12_clock 31 = .ok (.aload_n 0, 1) := by decide +kernel
theorem dX12_clock_32 : decode cX12_clock 32 = .ok (.getfield 76, 3) := by decide +kernel
theorem dX12_clock_35 : decode cX12_clock 35 = .ok (.ifCond .ne 13, 3) := by decide +kernel
theorem dX12_clock_38 : decode cX12_clock 38 = .ok (.aload_n 0, 1) := by decide +kernel
theorem dX12_clock_39 : decode cX12_clock 39 = .ok (.iload_n 1, 1) := by decide +kernel
theorem dX12_clock_40 : decode cX12_clock 40 = .ok (.putfield 220, 3) := by decide +kernel
theorem dX12_clock_43 : decode cX12_clock 43 = .ok (.aload_n 0, 1) := by decide +kernel
theorem dX12_clock_44 : decode cX12_clock 44 = .ok (.iload_n 2, 1) := by decide +kernel
theorem dX12_clock_45 : decode cX12_clock 45 = .ok (.putfield 58, 3) := by decide +kernel
theorem dX12_clock_48 : decode cX12_clock 48 = .ok (.return_, 1) := by decide +kernel
def fX12_clock (m : dM) (p0 : Nat) (p1 : Int32) (p2 : Int32) : Option dM := dg (dkg p0 13) ((fX12_isIn m p1 0 9999).bind (fun v2 => if v2 = 0 then dlet (d1 m p0 25 1) (fun m3 => some m3) else (fX12_isIn m p2 p1 9999).bind (fun v5 => if v5 = 0 then dlet (d1 m p0 25 1) (fun m6 => some m6) else dlet (d1 m p0 25 0) (fun m7 => dlet (d1 m7 p0 17 p1) (fun m8 => dlet (d1 m8 p0 18 p2) (fun m9 => some m9))))))
set_option maxHeartbeats 4000000 in
set_option maxRecDepth 100000 in
theorem kX12_clock (l : Launch) (g : dG) {m : dM} {p0 : Nat} {p1 : Int32} {p2 : Int32} {m0 : dM} (h : fX12_clock m p0 p1 p2 = some m0) : dMet l g yX12_clock wsX12_clock (dRm 1 22) [.ref (dad g p0), .int p1, .int p2] m (dQV g m0) := by
  refine dof (cc := cX12_clock) (maxL := 3) (ret := none) _ (plainFor_of_name (by decide)) rfl (Nat.le_of_ble_eq_true rfl) ?_
  intro p e s mth below meth c S hr hlk hE H ls hP hS hl
  have S : CallFix p mth c cX12_clock 3 s _ wsX12_clock RX12 := S
  have hl : lv_has ls 3 [(0, .ref (dad g p0)), (1, .int p1), (2, .int p2)] := hl
  obtain ⟨locs, hlocs⟩ : ∃ z : List Loc, z = [] := ⟨_, rfl⟩
  rw [← hlocs] at hS ⊢
  have in12 : ∀ w ∈ wsX120, w ∈ wsX12_clock := by decide +kernel
  unfold fX12_clock at h
  obtain ⟨k0, h⟩ := d_g h
  have k0 := d_k k0
  refine lv_aload_n S.1 S.2.1 dX12_clock_0 rfl (lv_at hl 0 rfl) ?_
  refine lv_iload_n S.1 S.2.1 dX12_clock_1 rfl (lv_at hl 1 rfl) ?_
  refine lv_iconst (v := 0) S.1 S.2.1 dX12_clock_2 (by decide) ?_
  refine lv_sipush (v := 9999) S.1 S.2.1 dX12_clock_3 (by decide) ?_
  obtain ⟨v2, hc1, h⟩ := d_b h
  refine dri (va_runS (As := [.int p1, .int 0, .int 9999]) (rest := [.ref (dad g p0)]) S (kX12_isIn l g hc1) (va_cwS 3 S.2.2.2.2 gX12_clock_X12_isIn rfl rfl rfl ynX12_isIn ⟨Nat.le_of_ble_eq_true rfl, Nat.le_of_ble_eq_true rfl⟩) (dpS hE hP hS) rfl rfl hl.1 rfl (lv_room (Nat.le_of_ble_eq_true rfl)) dX12_clock_6 ⟨Nat.le_of_ble_eq_true rfl, Nat.le_of_ble_eq_true rfl⟩) hS (fun H locs hP hS => ?_)
  refine lv_if_eq (tgt := 27) S.1 S.2.1 dX12_clock_9 (by decide) (fun cq => ?_) (fun cq => ?_)
  · have h := d_t cq h
    refine lv_iconst (v := 1) S.1 S.2.1 dX12_clock_27 (by decide) ?_
    refine dpf12_25 S in12 hE hP hS k0 (S.2.2.2.2 (.fieldLink RX12 76 "DrillFieldModel" "thrown" "I") (List.mem_of_getElem? (i := 1) rfl)) dX12_clock_28 (fun H locs hP hS => ?_)
    obtain ⟨m3, em3⟩ : ∃ z : dM, z = d1 m p0 25 1 := ⟨_, rfl⟩
    have h := d_let em3 h
    rw [← em3] at hP
    refine lv_aload_n S.1 S.2.1 dX12_clock_31 rfl (lv_at hl 0 rfl) ?_
    refine dgf12_25 S in12 hE hP k0 (S.2.2.2.2 (.fieldLink RX12 76 "DrillFieldModel" "thrown" "I") (List.mem_of_getElem? (i := 1) rfl)) dX12_clock_32 ?_
    refine d_top (v := 1) (by rw [em3]; exact d1_get) ?_
    refine lv_if_ne (tgt := 48) S.1 S.2.1 dX12_clock_35 (by decide) (fun cq => ?_) (fun cq => ?_)
    · obtain rfl := Option.some.inj h
      exact dtv S hr hlk hE hP hS dX12_clock_48
    · exact absurd cq (by decide)
  · have h := d_f cq h
    refine lv_iload_n S.1 S.2.1 dX12_clock_12 rfl (lv_at hl 2 rfl) ?_
    refine lv_iload_n S.1 S.2.1 dX12_clock_13 rfl (lv_at hl 1 rfl) ?_
    refine lv_sipush (v := 9999) S.1 S.2.1 dX12_clock_14 (by decide) ?_
    obtain ⟨v5, hc4, h⟩ := d_b h
    refine dri (va_runS (As := [.int p2, .int p1, .int 9999]) (rest := [.ref (dad g p0)]) S (kX12_isIn l g hc4) (va_cwS 3 S.2.2.2.2 gX12_clock_X12_isIn rfl rfl rfl ynX12_isIn ⟨Nat.le_of_ble_eq_true rfl, Nat.le_of_ble_eq_true rfl⟩) (dpS hE hP hS) rfl rfl hl.1 rfl (lv_room (Nat.le_of_ble_eq_true rfl)) dX12_clock_17 ⟨Nat.le_of_ble_eq_true rfl, Nat.le_of_ble_eq_true rfl⟩) hS (fun H locs hP hS => ?_)
    refine lv_if_eq (tgt := 27) S.1 S.2.1 dX12_clock_20 (by decide) (fun cq => ?_) (fun cq => ?_)
    · have h := d_t cq h
      refine lv_iconst (v := 1) S.1 S.2.1 dX12_clock_27 (by decide) ?_
      refine dpf12_25 S in12 hE hP hS k0 (S.2.2.2.2 (.fieldLink RX12 76 "DrillFieldModel" "thrown" "I") (List.mem_of_getElem? (i := 1) rfl)) dX12_clock_28 (fun H locs hP hS => ?_)
      obtain ⟨m6, em6⟩ : ∃ z : dM, z = d1 m p0 25 1 := ⟨_, rfl⟩
      have h := d_let em6 h
      rw [← em6] at hP
      refine lv_aload_n S.1 S.2.1 dX12_clock_31 rfl (lv_at hl 0 rfl) ?_
      refine dgf12_25 S in12 hE hP k0 (S.2.2.2.2 (.fieldLink RX12 76 "DrillFieldModel" "thrown" "I") (List.mem_of_getElem? (i := 1) rfl)) dX12_clock_32 ?_
      refine d_top (v := 1) (by rw [em6]; exact d1_get) ?_
      refine lv_if_ne (tgt := 48) S.1 S.2.1 dX12_clock_35 (by decide) (fun cq => ?_) (fun cq => ?_)
      · obtain rfl := Option.some.inj h
        exact dtv S hr hlk hE hP hS dX12_clock_48
      · exact absurd cq (by decide)
    · have h := d_f cq h
      refine lv_iconst (v := 0) S.1 S.2.1 dX12_clock_23 (by decide) ?_
      refine lv_goto (tgt := 28) S.1 S.2.1 dX12_clock_24 (by decide) ?_
      refine dpf12_25 S in12 hE hP hS k0 (S.2.2.2.2 (.fieldLink RX12 76 "DrillFieldModel" "thrown" "I") (List.mem_of_getElem? (i := 1) rfl)) dX12_clock_28 (fun H locs hP hS => ?_)
      obtain ⟨m7, em7⟩ : ∃ z : dM, z = d1 m p0 25 0 := ⟨_, rfl⟩
      have h := d_let em7 h
      rw [← em7] at hP
      refine lv_aload_n S.1 S.2.1 dX12_clock_31 rfl (lv_at hl 0 rfl) ?_
      refine dgf12_25 S in12 hE hP k0 (S.2.2.2.2 (.fieldLink RX12 76 "DrillFieldModel" "thrown" "I") (List.mem_of_getElem? (i := 1) rfl)) dX12_clock_32 ?_
      refine d_top (v := 0) (by rw [em7]; exact d1_get) ?_
      refine lv_if_ne (tgt := 48) S.1 S.2.1 dX12_clock_35 (by decide) (fun cq => ?_) (fun cq => ?_)
      · exact absurd (by decide) cq
      · refine lv_aload_n S.1 S.2.1 dX12_clock_38 rfl (lv_at hl 0 rfl) ?_
        refine lv_iload_n S.1 S.2.1 dX12_clock_39 rfl (lv_at hl 1 rfl) ?_
        refine dpf12_17 S in12 hE hP hS k0 (S.2.2.2.2 (.fieldLink RX12 220 "DrillFieldModel" "least" "I") (List.mem_of_getElem? (i := 2) rfl)) dX12_clock_40 (fun H locs hP hS => ?_)
        obtain ⟨m8, em8⟩ : ∃ z : dM, z = d1 m7 p0 17 p1 := ⟨_, rfl⟩
        have h := d_let em8 h
        rw [← em8] at hP
        refine lv_aload_n S.1 S.2.1 dX12_clock_43 rfl (lv_at hl 0 rfl) ?_
        refine lv_iload_n S.1 S.2.1 dX12_clock_44 rfl (lv_at hl 2 rfl) ?_
        refine dpf12_18 S in12 hE hP hS k0 (S.2.2.2.2 (.fieldLink RX12 58 "DrillFieldModel" "most" "I") (List.mem_of_getElem? (i := 3) rfl)) dX12_clock_45 (fun H locs hP hS => ?_)
        obtain ⟨m9, em9⟩ : ∃ z : dM, z = d1 m8 p0 18 p2 := ⟨_, rfl⟩
        have h := d_let em9 h
        rw [← em9] at hP
        obtain rfl := Option.some.inj h
        exact dtv S hr hlk hE hP hS dX12_clock_48
theorem dX12_cut_0 : decode cX12_cut 0 = .ok (.aload_n 0, 1) := by decide +kernel
theorem dX12_cut_1 : decode cX12_cut 1 = .ok (.aload_n 0, 1) := by decide +kernel
theorem dX12_cut_2 : decode cX12_cut 2 = .ok (.getfield 83, 3) := by decide +kernel
theorem dX12_cut_5 : decode cX12_cut 5 = .ok (.ifCond .ne 7, 3) := by decide +kernel
theorem dX12_cut_8 : decode cX12_cut 8 = .ok (.iconst 1, 1) := by decide +kernel
theorem dX12_cut_9 : decode cX12_cut 9 = .ok (.goto 4, 3) := by decide +kernel
theorem dX12_cut_12 : decode cX12_cut 12 = .ok (.iconst 0, 1) := by decide +kernel
theorem dX12_cut_13 : decode cX12_cut 13 = .ok (.putfield 76, 3) := by decide +kernel
theorem dX12_cut_16 : decode cX12_cut 16 = .ok (.aload_n 0, 1) := by decide +kernel
theorem dX12_cut_17 : decode cX12_cut 17 = .ok (.getfield 76, 3) := by decide +kernel
theorem dX12_cut_20 : decode cX12_cut 20 = .ok (.ifCond .le 5, 3) := by decide +kernel
theorem dX12_cut_23 : decode cX12_cut 23 = .ok (.iconst 0, 1) := by decide +kernel
theorem dX12_cut_24 : decode cX12_cut 24 = .ok (.ireturn, 1) := by decide +kernel
theorem dX12_cut_25 : decode cX12_cut 25 = .ok (.aload_n 0, 1) := by decide +kernel
theorem dX12_cut_26 : decode cX12_cut 26 = .ok (.dup, 1) := by decide +kernel
theorem dX12_cut_27 : decode cX12_cut 27 = .ok (.getfield 83, 3) := by decide +kernel
theorem dX12_cut_30 : decode cX12_cut 30 = .ok (.iconst 1, 1) := by decide +kernel
theorem dX12_cut_31 : decode cX12_cut 31 = .ok (.isub, 1) := by decide +kernel
theorem dX12_cut_32 : decode cX12_cut 32 = .ok (.putfield 83, 3) := by decide +kernel
theorem dX12_cut_35 : decode cX12_cut 35 = .ok (.aload_n 0, 1) := by decide +kernel
theorem dX12_cut_36 : decode cX12_cut 36 = .ok (.getfield 83, 3) := by decide +kernel
theorem dX12_cut_39 : decode cX12_cut 39 = .ok (.ireturn, 1) := by decide +kernel
def fX12_cut (m : dM) (p0 : Nat) : Option (Int32 × dM) := dg (dkg p0 13) (if (m.1 p0 8) = 0 then dlet (d1 m p0 25 1) (fun m3 => some (0, m3)) else dlet (d1 m p0 25 0) (fun m1 => dlet (d1 m1 p0 8 ((m1.1 p0 8) - 1)) (fun m2 => some (m2.1 p0 8, m2))))
set_option maxHeartbeats 4000000 in
set_option maxRecDepth 100000 in
theorem kX12_cut (l : Launch) (g : dG) {m : dM} {p0 : Nat} {r0 : Int32} {m0 : dM} (h : fX12_cut m p0 = some (r0, m0)) : dMet l g yX12_cut wsX12_cut (dRm 0 0) [.ref (dad g p0)] m (dQI g r0 m0) := by
  refine dof (cc := cX12_cut) (maxL := 1) (ret := (some .int)) _ (plainFor_of_name (by decide)) rfl (Nat.le_of_ble_eq_true rfl) ?_
  intro p e s mth below meth c S hr hlk hE H ls hP hS hl
  have S : CallFix p mth c cX12_cut 1 s _ wsX12_cut RX12 := S
  have hl : lv_has ls 1 [(0, .ref (dad g p0))] := hl
  obtain ⟨locs, hlocs⟩ : ∃ z : List Loc, z = [] := ⟨_, rfl⟩
  rw [← hlocs] at hS ⊢
  have in12 : ∀ w ∈ wsX120, w ∈ wsX12_cut := by decide +kernel
  unfold fX12_cut at h
  obtain ⟨k0, h⟩ := d_g h
  have k0 := d_k k0
  refine lv_aload_n S.1 S.2.1 dX12_cut_0 rfl (lv_at hl 0 rfl) ?_
  refine lv_aload_n S.1 S.2.1 dX12_cut_1 rfl (lv_at hl 0 rfl) ?_
  refine dgf12_8 S in12 hE hP k0 (S.2.2.2.2 (.fieldLink RX12 83 "DrillFieldModel" "parts" "I") (List.mem_of_getElem? (i := 1) rfl)) dX12_cut_2 ?_
  refine lv_if_ne (tgt := 12) S.1 S.2.1 dX12_cut_5 (by decide) (fun cq => ?_) (fun cq => ?_)
  · have h := d_f cq h
    refine lv_iconst (v := 0) S.1 S.2.1 dX12_cut_12 (by decide) ?_
    refine dpf12_25 S in12 hE hP hS k0 (S.2.2.2.2 (.fieldLink RX12 76 "DrillFieldModel" "thrown" "I") (List.mem_of_getElem? (i := 2) rfl)) dX12_cut_13 (fun H locs hP hS => ?_)
    obtain ⟨m1, em1⟩ : ∃ z : dM, z = d1 m p0 25 0 := ⟨_, rfl⟩
    have h := d_let em1 h
    rw [← em1] at hP
    refine lv_aload_n S.1 S.2.1 dX12_cut_16 rfl (lv_at hl 0 rfl) ?_
    refine dgf12_25 S in12 hE hP k0 (S.2.2.2.2 (.fieldLink RX12 76 "DrillFieldModel" "thrown" "I") (List.mem_of_getElem? (i := 2) rfl)) dX12_cut_17 ?_
    refine d_top (v := 0) (by rw [em1]; exact d1_get) ?_
    refine lv_if_le (tgt := 25) S.1 S.2.1 dX12_cut_20 (by decide) (fun cq => ?_) (fun cq => ?_)
    · refine lv_aload_n S.1 S.2.1 dX12_cut_25 rfl (lv_at hl 0 rfl) ?_
      refine lv_dup S.1 S.2.1 dX12_cut_26 rfl ?_
      refine dgf12_8 S in12 hE hP k0 (S.2.2.2.2 (.fieldLink RX12 83 "DrillFieldModel" "parts" "I") (List.mem_of_getElem? (i := 1) rfl)) dX12_cut_27 ?_
      refine lv_iconst (v := 1) S.1 S.2.1 dX12_cut_30 (by decide) ?_
      refine lv_isub S.1 S.2.1 dX12_cut_31 ?_
      refine dpf12_8 S in12 hE hP hS k0 (S.2.2.2.2 (.fieldLink RX12 83 "DrillFieldModel" "parts" "I") (List.mem_of_getElem? (i := 1) rfl)) dX12_cut_32 (fun H locs hP hS => ?_)
      obtain ⟨m2, em2⟩ : ∃ z : dM, z = d1 m1 p0 8 ((m1.1 p0 8) - 1) := ⟨_, rfl⟩
      have h := d_let em2 h
      rw [← em2] at hP
      refine lv_aload_n S.1 S.2.1 dX12_cut_35 rfl (lv_at hl 0 rfl) ?_
      refine dgf12_8 S in12 hE hP k0 (S.2.2.2.2 (.fieldLink RX12 83 "DrillFieldModel" "parts" "I") (List.mem_of_getElem? (i := 1) rfl)) dX12_cut_36 ?_
      obtain ⟨rfl, rfl⟩ := Prod.mk.inj (Option.some.inj h)
      exact dti S hr hlk hE hP hS rfl dX12_cut_39
    · exact absurd (by decide) cq
  · have h := d_t cq h
    refine lv_iconst (v := 1) S.1 S.2.1 dX12_cut_8 (by decide) ?_
    refine lv_goto (tgt := 13) S.1 S.2.1 dX12_cut_9 (by decide) ?_
    refine dpf12_25 S in12 hE hP hS k0 (S.2.2.2.2 (.fieldLink RX12 76 "DrillFieldModel" "thrown" "I") (List.mem_of_getElem? (i := 2) rfl)) dX12_cut_13 (fun H locs hP hS => ?_)
    obtain ⟨m3, em3⟩ : ∃ z : dM, z = d1 m p0 25 1 := ⟨_, rfl⟩
    have h := d_let em3 h
    rw [← em3] at hP
    refine lv_aload_n S.1 S.2.1 dX12_cut_16 rfl (lv_at hl 0 rfl) ?_
    refine dgf12_25 S in12 hE hP k0 (S.2.2.2.2 (.fieldLink RX12 76 "DrillFieldModel" "thrown" "I") (List.mem_of_getElem? (i := 2) rfl)) dX12_cut_17 ?_
    refine d_top (v := 1) (by rw [em3]; exact d1_get) ?_
    refine lv_if_le (tgt := 25) S.1 S.2.1 dX12_cut_20 (by decide) (fun cq => ?_) (fun cq => ?_)
    · exact absurd cq (by decide)
    · refine lv_iconst (v := 0) S.1 S.2.1 dX12_cut_23 (by decide) ?_
      obtain ⟨rfl, rfl⟩ := Prod.mk.inj (Option.some.inj h)
      exact dti S hr hlk hE hP hS rfl dX12_cut_24
set_option maxRecDepth 20000 in
theorem ggX12_isTooLong_X12_xAt : GoodIn wsX12_isTooLong wsX12_xAt := goodIn_r _ [7, 8, 9, 10, 11, 6, 12, 13, 14, 15, 16, 17, 18, 19, 20, 21, 22, 39, 40, 41, 42, 43, 44, 45, 46, 47, 48, 49, 50, 51, 52, 53, 54, 55, 56, 57, 58, 59, 60, 61, 62, 63, 64, 65, 66] (by decide +kernel) (by decide +kernel)
set_option maxRecDepth 20000 in
theorem gX12_isTooLong_X12_xAt : GoodIn wsX12_isTooLong (wsV RX12 155 RX12 yX12_xAt wsX12_xAt) := goodIn_app (goodIn_of _ (by decide +kernel)) ggX12_isTooLong_X12_xAt
set_option maxRecDepth 20000 in
theorem ggX12_isTooLong_X12_yAt : GoodIn wsX12_isTooLong wsX12_yAt := goodIn_r _ [26, 8, 27, 28, 29, 6, 30, 31, 32, 33, 34, 35, 18, 19, 20, 21, 22, 39, 40, 41, 42, 43, 44, 45, 46, 47, 48, 49, 50, 51, 52, 53, 54, 55, 56, 57, 58, 59, 60, 61, 62, 63, 64, 65, 66] (by decide +kernel) (by decide +kernel)
set_option maxRecDepth 20000 in
theorem gX12_isTooLong_X12_yAt : GoodIn wsX12_isTooLong (wsV RX12 159 RX12 yX12_yAt wsX12_yAt) := goodIn_app (goodIn_of _ (by decide +kernel)) ggX12_isTooLong_X12_yAt
set_option maxRecDepth 20000 in
theorem ggX12_isTooLong_X12_square : GoodIn wsX12_isTooLong wsX12_square := goodIn_r _ [38] (by decide +kernel) (by decide +kernel)
set_option maxRecDepth 20000 in
theorem gX12_isTooLong_X12_square : GoodIn wsX12_isTooLong (va_wsS RX12 124 yX12_square wsX12_square) := goodIn_app (goodIn_of _ (by decide +kernel)) ggX12_isTooLong_X12_square
theorem dX12_isTooLong_0 : decode cX12_isTooLong 0 = .ok (.aload_n 0, 1) := by decide +kernel
theorem dX12_isTooLong_1 : decode cX12_isTooLong 1 = .ok (.getfield 39, 3) := by decide +kernel
theorem dX12_isTooLong_4 : decode cX12_isTooLong 4 = .ok (.iload_n 1, 1) := by decide +kernel
theorem dX12_isTooLong_5 : decode cX12_isTooLong 5 = .ok (.iaload, 1) := by decide +kernel
theorem dX12_isTooLong_6 : decode cX12_isTooLong 6 = .ok (.bipush 120, 2) := by decide +kernel
theorem dX12_isTooLong_8 : decode cX12_isTooLong 8 = .ok (.if_icmp .le 22, 3) := by decide +kernel
theorem dX12_isTooLong_11 : decode cX12_isTooLong 11 = .ok (.aload_n 0, 1) := by decide +kernel
theorem dX12_isTooLong_12 : decode cX12_isTooLong 12 = .ok (.getfield 13, 3) := by decide +kernel
theorem dX12_isTooLong_15 : decode cX12_isTooLong 15 = .ok (.iload_n 3, 1) := by decide +kernel
theorem dX12_isTooLong_16 : decode cX12_isTooLong 16 = .ok (.iaload, 1) := by decide +kernel
theorem dX12_isTooLong_17 : decode cX12_isTooLong 17 = .ok (.bipush 120, 2) := by decide +kernel
theorem dX12_isTooLong_19 : decode cX12_isTooLong 19 = .ok (.imul, 1) := by decide +kernel
theorem dX12_isTooLong_20 : decode cX12_isTooLong 20 = .ok (.aload_n 0, 1) := by decide +kernel
theorem dX12_isTooLong_21 : decode cX12_isTooLong 21 = .ok (.getfield 39, 3) := by decide +kernel
theorem dX12_isTooLong_24 : decode cX12_isTooLong 24 = .ok (.iload_n 1, 1) := by decide +kernel
theorem dX12_isTooLong_25 : decode cX12_isTooLong 25 = .ok (.iaload, 1) := by decide +kernel
theorem dX12_isTooLong_26 : decode cX12_isTooLong 26 = .ok (.idiv, 1) := by decide +kernel
theorem dX12_isTooLong_27 : decode cX12_isTooLong 27 = .ok (.goto 9, 3) := by decide +kernel
theorem dX12_isTooLong_30 : decode cX12_isTooLong 30 = .ok (.aload_n 0, 1) := by decide +kernel
theorem dX12_isTooLong_31 : decode cX12_isTooLong 31 = .ok (.getfield 13, 3) := by decide +kernel
theorem dX12_isTooLong_34 : decode cX12_isTooLong 34 = .ok (.iload_n 3, 1) := by decide +kernel
theorem dX12_isTooLong_35 : decode cX12_isTooLong 35 = .ok (.iaload, 1) := by decide +kernel
theorem dX12_isTooLong_36 : decode cX12_isTooLong 36 = .ok (.istore 4, 2) := by decide +kernel
theorem dX12_isTooLong_38 : decode cX12_isTooLong 38 = .ok (.aload_n 0, 1) := by decide +kernel
theorem dX12_isTooLong_39 : decode cX12_isTooLong 39 = .ok (.iload_n 1, 1) := by decide +kernel
theorem dX12_isTooLong_40 : decode cX12_isTooLong 40 = .ok (.iload_n 2, 1) := by decide +kernel
theorem dX12_isTooLong_41 : decode cX12_isTooLong 41 = .ok (.iload_n 3, 1) := by decide +kernel
theorem dX12_isTooLong_42 : decode cX12_isTooLong 42 = .ok (.invokevirtual 155, 3) := by decide +kernel
theorem dX12_isTooLong_45 : decode cX12_isTooLong 45 = .ok (.aload_n 0, 1) := by decide +kernel
theorem dX12_isTooLong_46 : decode cX12_isTooLong 46 = .ok (.iload_n 1, 1) := by decide +kernel
theorem dX12_isTooLong_47 : decode cX12_isTooLong 47 = .ok (.iload_n 2, 1) := by decide +kernel
theorem dX12_isTooLong_48 : decode cX12_isTooLong 48 = .ok (.iconst 1, 1) := by decide +kernel
theorem dX12_isTooLong_49 : decode cX12_isTooLong 49 = .ok (.isub, 1) := by decide +kernel
theorem dX12_isTooLong_50 : decode cX12_isTooLong 50 = .ok (.iload_n 3, 1) := by decide +kernel
theorem dX12_isTooLong_51 : decode cX12_isTooLong 51 = .ok (.invokevirtual 155, 3) := by decide +kernel
theorem dX12_isTooLong_54 : decode cX12_isTooLong 54 = .ok (.isub, 1) := by decide +kernel
theorem dX12_isTooLong_55 : decode cX12_isTooLong 55 = .ok (.aload_n 0, 1) := by decide +kernel
theorem dX12_isTooLong_56 : decode cX12_isTooLong 56 = .ok (.iload_n 1, 1) := by decide +kernel
theorem dX12_isTooLong_57 : decode cX12_isTooLong 57 = .ok (.iload_n 2, 1) := by decide +kernel
theorem dX12_isTooLong_58 : decode cX12_isTooLong 58 = .ok (.iload_n 3, 1) := by decide +kernel
theorem dX12_isTooLong_59 : decode cX12_isTooLong 59 = .ok (.invokevirtual 159, 3) := by decide +kernel
theorem dX12_isTooLong_62 : decode cX12_isTooLong 62 = .ok (.aload_n 0, 1) := by decide +kernel
theorem dX12_isTooLong_63 : decode cX12_isTooLong 63 = .ok (.iload_n 1, 1) := by decide +kernel
theorem dX12_isTooLong_64 : decode cX12_isTooLong 64 = .ok (.iload_n 2, 1) := by decide +kernel
theorem dX12_isTooLong_65 : decode cX12_isTooLong 65 = .ok (.iconst 1, 1) := by decide +kernel
theorem dX12_isTooLong_66 : decode cX12_isTooLong 66 = .ok (.isub, 1) := by decide +kernel
theorem dX12_isTooLong_67 : decode cX12_isTooLong 67 = .ok (.iload_n 3, 1) := by decide +kernel
theorem dX12_isTooLong_68 : decode cX12_isTooLong 68 = .ok (.invokevirtual 159, 3) := by decide +kernel
theorem dX12_isTooLong_71 : decode cX12_isTooLong 71 = .ok (.isub, 1) := by decide +kernel
theorem dX12_isTooLong_72 : decode cX12_isTooLong 72 = .ok (.invokestatic 124, 3) := by decide +kernel
theorem dX12_isTooLong_75 : decode cX12_isTooLong 75 = .ok (.iload 4, 2) := by decide +kernel
theorem dX12_isTooLong_77 : decode cX12_isTooLong 77 = .ok (.i2l, 1) := by decide +kernel
theorem dX12_isTooLong_78 : decode cX12_isTooLong 78 = .ok (.iload 4, 2) := by decide +kernel
theorem dX12_isTooLong_80 : decode cX12_isTooLong 80 = .ok (.i2l, 1) := by decide +kernel
theorem dX12_isTooLong_81 : decode cX12_isTooLong 81 = .ok (.lmul, 1) := by decide +kernel
theorem dX12_isTooLong_82 : decode cX12_isTooLong 82 = .ok (.lcmp, 1) := by decide +kernel
theorem dX12_isTooLong_83 : decode cX12_isTooLong 83 = .ok (.ifCond .le 7, 3) := by decide +kernel
theorem dX12_isTooLong_86 : decode cX12_isTooLong 86 = .ok (.iconst 1, 1) := by decide +kernel
theorem dX12_isTooLong_87 : decode cX12_isTooLong 87 = .ok (.goto 4, 3) := by decide +kernel
theorem dX12_isTooLong_90 : decode cX12_isTooLong 90 = .ok (.iconst 0, 1) := by decide +kernel
theorem dX12_isTooLong_91 : decode cX12_isTooLong 91 = .ok (.ireturn, 1) := by decide +kernel
def fX12_isTooLong (m : dM) (p0 : Nat) (p1 : Int32) (p2 : Int32) (p3 : Int32) : Option Int32 := dg (dkg p0 13) (dg (dIx p1 (dL 453)) (if (m.1 453 (Int32.toNatClampNeg (p1))) ≤ 120 then dg (dIx p3 (dL 445)) (dlet (m.1 445 (Int32.toNatClampNeg (p3)) : Int32) (fun v1 => (fX12_xAt m p0 p1 p2 p3).bind (fun v3 => (fX12_xAt m p0 p1 (p2 - 1) p3).bind (fun v5 => (fX12_yAt m p0 p1 p2 p3).bind (fun v7 => (fX12_yAt m p0 p1 (p2 - 1) p3).bind (fun v9 => (fX12_square m (v3 - v5) (v7 - v9)).bind (fun v11 => if (lg_cmp v11 ((Int32.toInt64 v1) * (Int32.toInt64 v1))) ≤ 0 then some 0 else some 1))))))) else dg (dIx p3 (dL 445)) (dg (dIx p1 (dL 453)) (dg (decide (¬ (m.1 453 (Int32.toNatClampNeg (p1))) = 0)) (dlet (((m.1 445 (Int32.toNatClampNeg (p3))) * 120) / (m.1 453 (Int32.toNatClampNeg (p1))) : Int32) (fun v12 => (fX12_xAt m p0 p1 p2 p3).bind (fun v14 => (fX12_xAt m p0 p1 (p2 - 1) p3).bind (fun v16 => (fX12_yAt m p0 p1 p2 p3).bind (fun v18 => (fX12_yAt m p0 p1 (p2 - 1) p3).bind (fun v20 => (fX12_square m (v14 - v16) (v18 - v20)).bind (fun v22 => if (lg_cmp v22 ((Int32.toInt64 v12) * (Int32.toInt64 v12))) ≤ 0 then some 0 else some 1)))))))))))
set_option maxHeartbeats 4000000 in
set_option maxRecDepth 100000 in
theorem kX12_isTooLong (l : Launch) (g : dG) {m : dM} {p0 : Nat} {p1 : Int32} {p2 : Int32} {p3 : Int32} {r0 : Int32} (h : fX12_isTooLong m p0 p1 p2 p3 = some r0) : dMet l g yX12_isTooLong wsX12_isTooLong (dRm 3 68) [.ref (dad g p0), .int p1, .int p2, .int p3] m (dQI g r0 m) := by
  refine dof (cc := cX12_isTooLong) (maxL := 5) (ret := (some .boolean)) _ (plainFor_of_name (by decide)) rfl (Nat.le_of_ble_eq_true rfl) ?_
  intro p e s mth below meth c S hr hlk hE H ls hP hS hl
  have S : CallFix p mth c cX12_isTooLong 5 s _ wsX12_isTooLong RX12 := S
  have hl : lv_has ls 5 [(0, .ref (dad g p0)), (1, .int p1), (2, .int p2), (3, .int p3)] := hl
  obtain ⟨locs, hlocs⟩ : ∃ z : List Loc, z = [] := ⟨_, rfl⟩
  rw [← hlocs] at hS ⊢
  have in12 : ∀ w ∈ wsX120, w ∈ wsX12_isTooLong := by decide +kernel
  unfold fX12_isTooLong at h
  obtain ⟨k0, h⟩ := d_g h
  have k0 := d_k k0
  refine lv_aload_n S.1 S.2.1 dX12_isTooLong_0 rfl (lv_at hl 0 rfl) ?_
  refine dgf12_11 S in12 hE hP k0 (S.2.2.2.2 (.fieldLink RX12 39 "DrillFieldModel" "tempo" "[I") (List.mem_of_getElem? (i := 1) rfl)) dX12_isTooLong_1 ?_
  refine lv_iload_n S.1 S.2.1 dX12_isTooLong_4 rfl (lv_at hl 1 rfl) ?_
  obtain ⟨hi, h⟩ := d_g h
  refine d_iald S hE hP dk_453 hi dX12_isTooLong_5 ?_
  refine lv_bipush (v := 120) S.1 S.2.1 dX12_isTooLong_6 (by decide) ?_
  refine lv_icmp_le (tgt := 30) S.1 S.2.1 dX12_isTooLong_8 (by decide) (fun cq => ?_) (fun cq => ?_)
  · have h := d_t cq h
    refine lv_aload_n S.1 S.2.1 dX12_isTooLong_30 rfl (lv_at hl 0 rfl) ?_
    refine dgf12_1 S in12 hE hP k0 (S.2.2.2.2 (.fieldLink RX12 13 "DrillFieldModel" "legs" "[I") (List.mem_of_getElem? (i := 2) rfl)) dX12_isTooLong_31 ?_
    refine lv_iload_n S.1 S.2.1 dX12_isTooLong_34 rfl (lv_at hl 3 rfl) ?_
    obtain ⟨hi, h⟩ := d_g h
    refine d_iald S hE hP dk_445 hi dX12_isTooLong_35 ?_
    refine lv_topi (fun v1 ev1 => ?_)
    have h := d_let ev1 h
    refine lv_istore (lv' := [(4, .int v1), (0, .ref (dad g p0)), (1, .int p1), (2, .int p2), (3, .int p3)]) S.1 S.2.1 dX12_isTooLong_36 hl (by decide) rfl (fun ls hl => ?_)
    refine lv_aload_n S.1 S.2.1 dX12_isTooLong_38 rfl (lv_at hl 1 rfl) ?_
    refine lv_iload_n S.1 S.2.1 dX12_isTooLong_39 rfl (lv_at hl 2 rfl) ?_
    refine lv_iload_n S.1 S.2.1 dX12_isTooLong_40 rfl (lv_at hl 3 rfl) ?_
    refine lv_iload_n S.1 S.2.1 dX12_isTooLong_41 rfl (lv_at hl 4 rfl) ?_
    obtain ⟨v3, hc2, h⟩ := d_b h
    refine dri (va_runV (As := [.int p1, .int p2, .int p3]) (rest := []) S (kX12_xAt l g hc2) (cwV 3 S.2.2.2.2 gX12_isTooLong_X12_xAt rfl rfl rfl ynX12_xAt ⟨Nat.le_of_ble_eq_true rfl, Nat.le_of_ble_eq_true rfl⟩) (dpV hE hP hS (ci := 12) rfl (dat13 k0)) rfl rfl hl.1 rfl (lv_room (Nat.le_of_ble_eq_true rfl)) dX12_isTooLong_42 ⟨Nat.le_of_ble_eq_true rfl, Nat.le_of_ble_eq_true rfl⟩) hS (fun H locs hP hS => ?_)
    refine lv_aload_n S.1 S.2.1 dX12_isTooLong_45 rfl (lv_at hl 1 rfl) ?_
    refine lv_iload_n S.1 S.2.1 dX12_isTooLong_46 rfl (lv_at hl 2 rfl) ?_
    refine lv_iload_n S.1 S.2.1 dX12_isTooLong_47 rfl (lv_at hl 3 rfl) ?_
    refine lv_iconst (v := 1) S.1 S.2.1 dX12_isTooLong_48 (by decide) ?_
    refine lv_isub S.1 S.2.1 dX12_isTooLong_49 ?_
    refine lv_iload_n S.1 S.2.1 dX12_isTooLong_50 rfl (lv_at hl 4 rfl) ?_
    obtain ⟨v5, hc4, h⟩ := d_b h
    refine dri (va_runV (As := [.int p1, .int (p2 - 1), .int p3]) (rest := [.int v3]) S (kX12_xAt l g hc4) (cwV 3 S.2.2.2.2 gX12_isTooLong_X12_xAt rfl rfl rfl ynX12_xAt ⟨Nat.le_of_ble_eq_true rfl, Nat.le_of_ble_eq_true rfl⟩) (dpV hE hP hS (ci := 12) rfl (dat13 k0)) rfl rfl hl.1 rfl (lv_room (Nat.le_of_ble_eq_true rfl)) dX12_isTooLong_51 ⟨Nat.le_of_ble_eq_true rfl, Nat.le_of_ble_eq_true rfl⟩) hS (fun H locs hP hS => ?_)
    refine lv_isub S.1 S.2.1 dX12_isTooLong_54 ?_
    refine lv_aload_n S.1 S.2.1 dX12_isTooLong_55 rfl (lv_at hl 1 rfl) ?_
    refine lv_iload_n S.1 S.2.1 dX12_isTooLong_56 rfl (lv_at hl 2 rfl) ?_
    refine lv_iload_n S.1 S.2.1 dX12_isTooLong_57 rfl (lv_at hl 3 rfl) ?_
    refine lv_iload_n S.1 S.2.1 dX12_isTooLong_58 rfl (lv_at hl 4 rfl) ?_
    obtain ⟨v7, hc6, h⟩ := d_b h
    refine dri (va_runV (As := [.int p1, .int p2, .int p3]) (rest := [.int (v3 - v5)]) S (kX12_yAt l g hc6) (cwV 3 S.2.2.2.2 gX12_isTooLong_X12_yAt rfl rfl rfl ynX12_yAt ⟨Nat.le_of_ble_eq_true rfl, Nat.le_of_ble_eq_true rfl⟩) (dpV hE hP hS (ci := 12) rfl (dat13 k0)) rfl rfl hl.1 rfl (lv_room (Nat.le_of_ble_eq_true rfl)) dX12_isTooLong_59 ⟨Nat.le_of_ble_eq_true rfl, Nat.le_of_ble_eq_true rfl⟩) hS (fun H locs hP hS => ?_)
    refine lv_aload_n S.1 S.2.1 dX12_isTooLong_62 rfl (lv_at hl 1 rfl) ?_
    refine lv_iload_n S.1 S.2.1 dX12_isTooLong_63 rfl (lv_at hl 2 rfl) ?_
    refine lv_iload_n S.1 S.2.1 dX12_isTooLong_64 rfl (lv_at hl 3 rfl) ?_
    refine lv_iconst (v := 1) S.1 S.2.1 dX12_isTooLong_65 (by decide) ?_
    refine lv_isub S.1 S.2.1 dX12_isTooLong_66 ?_
    refine lv_iload_n S.1 S.2.1 dX12_isTooLong_67 rfl (lv_at hl 4 rfl) ?_
    obtain ⟨v9, hc8, h⟩ := d_b h
    refine dri (va_runV (As := [.int p1, .int (p2 - 1), .int p3]) (rest := [.int v7, .int (v3 - v5)]) S (kX12_yAt l g hc8) (cwV 3 S.2.2.2.2 gX12_isTooLong_X12_yAt rfl rfl rfl ynX12_yAt ⟨Nat.le_of_ble_eq_true rfl, Nat.le_of_ble_eq_true rfl⟩) (dpV hE hP hS (ci := 12) rfl (dat13 k0)) rfl rfl hl.1 rfl (lv_room (Nat.le_of_ble_eq_true rfl)) dX12_isTooLong_68 ⟨Nat.le_of_ble_eq_true rfl, Nat.le_of_ble_eq_true rfl⟩) hS (fun H locs hP hS => ?_)
    refine lv_isub S.1 S.2.1 dX12_isTooLong_71 ?_
    obtain ⟨v11, hc10, h⟩ := d_b h
    refine drj (va_runS (As := [.int (v3 - v5), .int (v7 - v9)]) (rest := []) S (kX12_square l g hc10) (va_cwS 2 S.2.2.2.2 gX12_isTooLong_X12_square rfl rfl rfl ynX12_square ⟨Nat.le_of_ble_eq_true rfl, Nat.le_of_ble_eq_true rfl⟩) (dpS hE hP hS) rfl rfl hl.1 rfl (lv_room (Nat.le_of_ble_eq_true rfl)) dX12_isTooLong_72 ⟨Nat.le_of_ble_eq_true rfl, Nat.le_of_ble_eq_true rfl⟩) hS (fun H locs hP hS => ?_)
    refine lv_iload S.1 S.2.1 dX12_isTooLong_75 (lv_at hl 0 rfl) ?_
    refine lv_i2l S.1 S.2.1 dX12_isTooLong_77 rfl ?_
    refine lv_iload S.1 S.2.1 dX12_isTooLong_78 (lv_at hl 0 rfl) ?_
    refine lv_i2l S.1 S.2.1 dX12_isTooLong_80 rfl ?_
    refine lv_lmul S.1 S.2.1 dX12_isTooLong_81 ?_
    refine W.lcmp S.1 S.2.1 dX12_isTooLong_82 ?_
    refine lv_if_le (tgt := 90) S.1 S.2.1 dX12_isTooLong_83 (by decide) (fun cq => ?_) (fun cq => ?_)
    · have h := d_t cq h
      refine lv_iconst (v := 0) S.1 S.2.1 dX12_isTooLong_90 (by decide) ?_
      obtain rfl := Option.some.inj h
      exact dti S hr hlk hE hP hS rfl dX12_isTooLong_91
    · have h := d_f cq h
      refine lv_iconst (v := 1) S.1 S.2.1 dX12_isTooLong_86 (by decide) ?_
      refine lv_goto (tgt := 91) S.1 S.2.1 dX12_isTooLong_87 (by decide) ?_
      obtain rfl := Option.some.inj h
      exact dti S hr hlk hE hP hS rfl dX12_isTooLong_91
  · have h := d_f cq h
    refine lv_aload_n S.1 S.2.1 dX12_isTooLong_11 rfl (lv_at hl 0 rfl) ?_
    refine dgf12_1 S in12 hE hP k0 (S.2.2.2.2 (.fieldLink RX12 13 "DrillFieldModel" "legs" "[I") (List.mem_of_getElem? (i := 2) rfl)) dX12_isTooLong_12 ?_
    refine lv_iload_n S.1 S.2.1 dX12_isTooLong_15 rfl (lv_at hl 3 rfl) ?_
    obtain ⟨hi, h⟩ := d_g h
    refine d_iald S hE hP dk_445 hi dX12_isTooLong_16 ?_
    refine lv_bipush (v := 120) S.1 S.2.1 dX12_isTooLong_17 (by decide) ?_
    refine lv_imul S.1 S.2.1 dX12_isTooLong_19 ?_
    refine lv_aload_n S.1 S.2.1 dX12_isTooLong_20 rfl (lv_at hl 0 rfl) ?_
    refine dgf12_11 S in12 hE hP k0 (S.2.2.2.2 (.fieldLink RX12 39 "DrillFieldModel" "tempo" "[I") (List.mem_of_getElem? (i := 1) rfl)) dX12_isTooLong_21 ?_
    refine lv_iload_n S.1 S.2.1 dX12_isTooLong_24 rfl (lv_at hl 1 rfl) ?_
    obtain ⟨hi, h⟩ := d_g h
    refine d_iald S hE hP dk_453 hi dX12_isTooLong_25 ?_
    obtain ⟨hz, h⟩ := d_g h
    refine lv_idiv S.1 S.2.1 dX12_isTooLong_26 (of_decide_eq_true hz) ?_
    refine lv_goto (tgt := 36) S.1 S.2.1 dX12_isTooLong_27 (by decide) ?_
    refine lv_topi (fun v12 ev12 => ?_)
    have h := d_let ev12 h
    refine lv_istore (lv' := [(4, .int v12), (0, .ref (dad g p0)), (1, .int p1), (2, .int p2), (3, .int p3)]) S.1 S.2.1 dX12_isTooLong_36 hl (by decide) rfl (fun ls hl => ?_)
    refine lv_aload_n S.1 S.2.1 dX12_isTooLong_38 rfl (lv_at hl 1 rfl) ?_
    refine lv_iload_n S.1 S.2.1 dX12_isTooLong_39 rfl (lv_at hl 2 rfl) ?_
    refine lv_iload_n S.1 S.2.1 dX12_isTooLong_40 rfl (lv_at hl 3 rfl) ?_
    refine lv_iload_n S.1 S.2.1 dX12_isTooLong_41 rfl (lv_at hl 4 rfl) ?_
    obtain ⟨v14, hc13, h⟩ := d_b h
    refine dri (va_runV (As := [.int p1, .int p2, .int p3]) (rest := []) S (kX12_xAt l g hc13) (cwV 3 S.2.2.2.2 gX12_isTooLong_X12_xAt rfl rfl rfl ynX12_xAt ⟨Nat.le_of_ble_eq_true rfl, Nat.le_of_ble_eq_true rfl⟩) (dpV hE hP hS (ci := 12) rfl (dat13 k0)) rfl rfl hl.1 rfl (lv_room (Nat.le_of_ble_eq_true rfl)) dX12_isTooLong_42 ⟨Nat.le_of_ble_eq_true rfl, Nat.le_of_ble_eq_true rfl⟩) hS (fun H locs hP hS => ?_)
    refine lv_aload_n S.1 S.2.1 dX12_isTooLong_45 rfl (lv_at hl 1 rfl) ?_
    refine lv_iload_n S.1 S.2.1 dX12_isTooLong_46 rfl (lv_at hl 2 rfl) ?_
    refine lv_iload_n S.1 S.2.1 dX12_isTooLong_47 rfl (lv_at hl 3 rfl) ?_
    refine lv_iconst (v := 1) S.1 S.2.1 dX12_isTooLong_48 (by decide) ?_
    refine lv_isub S.1 S.2.1 dX12_isTooLong_49 ?_
    refine lv_iload_n S.1 S.2.1 dX12_isTooLong_50 rfl (lv_at hl 4 rfl) ?_
    obtain ⟨v16, hc15, h⟩ := d_b h
    refine dri (va_runV (As := [.int p1, .int (p2 - 1), .int p3]) (rest := [.int v14]) S (kX12_xAt l g hc15) (cwV 3 S.2.2.2.2 gX12_isTooLong_X12_xAt rfl rfl rfl ynX12_xAt ⟨Nat.le_of_ble_eq_true rfl, Nat.le_of_ble_eq_true rfl⟩) (dpV hE hP hS (ci := 12) rfl (dat13 k0)) rfl rfl hl.1 rfl (lv_room (Nat.le_of_ble_eq_true rfl)) dX12_isTooLong_51 ⟨Nat.le_of_ble_eq_true rfl, Nat.le_of_ble_eq_true rfl⟩) hS (fun H locs hP hS => ?_)
    refine lv_isub S.1 S.2.1 dX12_isTooLong_54 ?_
    refine lv_aload_n S.1 S.2.1 dX12_isTooLong_55 rfl (lv_at hl 1 rfl) ?_
    refine lv_iload_n S.1 S.2.1 dX12_isTooLong_56 rfl (lv_at hl 2 rfl) ?_
    refine lv_iload_n S.1 S.2.1 dX12_isTooLong_57 rfl (lv_at hl 3 rfl) ?_
    refine lv_iload_n S.1 S.2.1 dX12_isTooLong_58 rfl (lv_at hl 4 rfl) ?_
    obtain ⟨v18, hc17, h⟩ := d_b h
    refine dri (va_runV (As := [.int p1, .int p2, .int p3]) (rest := [.int (v14 - v16)]) S (kX12_yAt l g hc17) (cwV 3 S.2.2.2.2 gX12_isTooLong_X12_yAt rfl rfl rfl ynX12_yAt ⟨Nat.le_of_ble_eq_true rfl, Nat.le_of_ble_eq_true rfl⟩) (dpV hE hP hS (ci := 12) rfl (dat13 k0)) rfl rfl hl.1 rfl (lv_room (Nat.le_of_ble_eq_true rfl)) dX12_isTooLong_59 ⟨Nat.le_of_ble_eq_true rfl, Nat.le_of_ble_eq_true rfl⟩) hS (fun H locs hP hS => ?_)
    refine lv_aload_n S.1 S.2.1 dX12_isTooLong_62 rfl (lv_at hl 1 rfl) ?_
    refine lv_iload_n S.1 S.2.1 dX12_isTooLong_63 rfl (lv_at hl 2 rfl) ?_
    refine lv_iload_n S.1 S.2.1 dX12_isTooLong_64 rfl (lv_at hl 3 rfl) ?_
    refine lv_iconst (v := 1) S.1 S.2.1 dX12_isTooLong_65 (by decide) ?_
    refine lv_isub S.1 S.2.1 dX12_isTooLong_66 ?_
    refine lv_iload_n S.1 S.2.1 dX12_isTooLong_67 rfl (lv_at hl 4 rfl) ?_
    obtain ⟨v20, hc19, h⟩ := d_b h
    refine dri (va_runV (As := [.int p1, .int (p2 - 1), .int p3]) (rest := [.int v18, .int (v14 - v16)]) S (kX12_yAt l g hc19) (cwV 3 S.2.2.2.2 gX12_isTooLong_X12_yAt rfl rfl rfl ynX12_yAt ⟨Nat.le_of_ble_eq_true rfl, Nat.le_of_ble_eq_true rfl⟩) (dpV hE hP hS (ci := 12) rfl (dat13 k0)) rfl rfl hl.1 rfl (lv_room (Nat.le_of_ble_eq_true rfl)) dX12_isTooLong_68 ⟨Nat.le_of_ble_eq_true rfl, Nat.le_of_ble_eq_true rfl⟩) hS (fun H locs hP hS => ?_)
    refine lv_isub S.1 S.2.1 dX12_isTooLong_71 ?_
    obtain ⟨v22, hc21, h⟩ := d_b h
    refine drj (va_runS (As := [.int (v14 - v16), .int (v18 - v20)]) (rest := []) S (kX12_square l g hc21) (va_cwS 2 S.2.2.2.2 gX12_isTooLong_X12_square rfl rfl rfl ynX12_square ⟨Nat.le_of_ble_eq_true rfl, Nat.le_of_ble_eq_true rfl⟩) (dpS hE hP hS) rfl rfl hl.1 rfl (lv_room (Nat.le_of_ble_eq_true rfl)) dX12_isTooLong_72 ⟨Nat.le_of_ble_eq_true rfl, Nat.le_of_ble_eq_true rfl⟩) hS (fun H locs hP hS => ?_)
    refine lv_iload S.1 S.2.1 dX12_isTooLong_75 (lv_at hl 0 rfl) ?_
    refine lv_i2l S.1 S.2.1 dX12_isTooLong_77 rfl ?_
    refine lv_iload S.1 S.2.1 dX12_isTooLong_78 (lv_at hl 0 rfl) ?_
    refine lv_i2l S.1 S.2.1 dX12_isTooLong_80 rfl ?_
    refine lv_lmul S.1 S.2.1 dX12_isTooLong_81 ?_
    refine W.lcmp S.1 S.2.1 dX12_isTooLong_82 ?_
    refine lv_if_le (tgt := 90) S.1 S.2.1 dX12_isTooLong_83 (by decide) (fun cq => ?_) (fun cq => ?_)
    · have h := d_t cq h
      refine lv_iconst (v := 0) S.1 S.2.1 dX12_isTooLong_90 (by decide) ?_
      obtain rfl := Option.some.inj h
      exact dti S hr hlk hE hP hS rfl dX12_isTooLong_91
    · have h := d_f cq h
      refine lv_iconst (v := 1) S.1 S.2.1 dX12_isTooLong_86 (by decide) ?_
      refine lv_goto (tgt := 91) S.1 S.2.1 dX12_isTooLong_87 (by decide) ?_
      obtain rfl := Option.some.inj h
      exact dti S hr hlk hE hP hS rfl dX12_isTooLong_91
set_option maxRecDepth 20000 in
theorem ggX12_isFault_X12_xAt : GoodIn wsX12_isFault wsX12_xAt := goodIn_r _ [6, 7, 8, 9, 10, 5, 11, 12, 13, 14, 15, 16, 17, 18, 19, 20, 21, 46, 47, 48, 49, 50, 51, 52, 53, 54, 55, 56, 57, 58, 59, 60, 61, 62, 63, 64, 65, 66, 67, 68, 69, 70, 71, 72, 73] (by decide +kernel) (by decide +kernel)
set_option maxRecDepth 20000 in
theorem gX12_isFault_X12_xAt : GoodIn wsX12_isFault (wsV RX12 155 RX12 yX12_xAt wsX12_xAt) := goodIn_app (goodIn_of _ (by decide +kernel)) ggX12_isFault_X12_xAt
set_option maxRecDepth 20000 in
theorem ggX12_isFault_X12_yAt : GoodIn wsX12_isFault wsX12_yAt := goodIn_r _ [25, 7, 26, 27, 28, 5, 29, 30, 31, 32, 33, 34, 17, 18, 19, 20, 21, 46, 47, 48, 49, 50, 51, 52, 53, 54, 55, 56, 57, 58, 59, 60, 61, 62, 63, 64, 65, 66, 67, 68, 69, 70, 71, 72, 73] (by decide +kernel) (by decide +kernel)
set_option maxRecDepth 20000 in
theorem gX12_isFault_X12_yAt : GoodIn wsX12_isFault (wsV RX12 159 RX12 yX12_yAt wsX12_yAt) := goodIn_app (goodIn_of _ (by decide +kernel)) ggX12_isFault_X12_yAt
set_option maxRecDepth 20000 in
theorem ggX12_isFault_X12_square : GoodIn wsX12_isFault wsX12_square := goodIn_r _ [37] (by decide +kernel) (by decide +kernel)
set_option maxRecDepth 20000 in
theorem gX12_isFault_X12_square : GoodIn wsX12_isFault (va_wsS RX12 124 yX12_square wsX12_square) := goodIn_app (goodIn_of _ (by decide +kernel)) ggX12_isFault_X12_square
set_option maxRecDepth 20000 in
theorem ggX12_isFault_X12_areCrossing : GoodIn wsX12_isFault wsX12_areCrossing := goodIn_r _ [41, 2, 3, 4, 5, 6, 7, 8, 9, 10, 11, 12, 13, 14, 15, 16, 17, 18, 19, 20, 21, 22, 23, 24, 25, 26, 27, 28, 29, 30, 31, 32, 33, 34, 42, 43, 44, 45, 46, 47, 48, 49, 50, 51, 52, 53, 54, 55, 56, 57, 58, 59, 60, 61, 62, 63, 64, 65, 66, 67, 68, 69, 70, 71, 72, 73] (by decide +kernel) (by decide +kernel)
set_option maxRecDepth 20000 in
theorem gX12_isFault_X12_areCrossing : GoodIn wsX12_isFault (wsV RX12 170 RX12 yX12_areCrossing wsX12_areCrossing) := goodIn_app (goodIn_of _ (by decide +kernel)) ggX12_isFault_X12_areCrossing
theorem dX12_isFault_0 : decode cX12_isFault 0 = .ok (.iload_n 3, 1) := by decide +kernel
theorem dX12_isFault_1 : decode cX12_isFault 1 = .ok (.iconst 1, 1) := by decide +kernel
theorem dX12_isFault_2 : decode cX12_isFault 2 = .ok (.if_icmp .ne 53, 3) := by decide +kernel
theorem dX12_isFault_5 : decode cX12_isFault 5 = .ok (.aload_n 0, 1) := by decide +kernel
theorem dX12_isFault_6 : decode cX12_isFault 6 = .ok (.iload_n 1, 1) := by decide +kernel
theorem dX12_isFault_7 : decode cX12_isFault 7 = .ok (.iload_n 2, 1) := by decide +kernel
theorem dX12_isFault_8 : decode cX12_isFault 8 = .ok (.iload 4, 2) := by decide +kernel
theorem dX12_isFault_10 : decode cX12_isFault 10 = .ok (.invokevirtual 155, 3) := by decide +kernel
theorem dX12_isFault_13 : decode cX12_isFault 13 = .ok (.aload_n 0, 1) := by decide +kernel
theorem dX12_isFault_14 : decode cX12_isFault 14 = .ok (.iload_n 1, 1) := by decide +kernel
theorem dX12_isFault_15 : decode cX12_isFault 15 = .ok (.iload_n 2, 1) := by decide +kernel
theorem dX12_isFault_16 : decode cX12_isFault 16 = .ok (.iload 5, 2) := by decide +kernel
theorem dX12_isFault_18 : decode cX12_isFault 18 = .ok (.invokevirtual 155, 3) := by decide +kernel
theorem dX12_isFault_21 : decode cX12_isFault 21 = .ok (.isub, 1) := by decide +kernel
theorem dX12_isFault_22 : decode cX12_isFault 22 = .ok (.aload_n 0, 1) := by decide +kernel
theorem dX12_isFault_23 : decode cX12_isFault 23 = .ok (.iload_n 1, 1) := by decide +kernel
theorem dX12_isFault_24 : decode cX12_isFault 24 = .ok (.iload_n 2, 1) := by decide +kernel
theorem dX12_isFault_25 : decode cX12_isFault 25 = .ok (.iload 4, 2) := by decide +kernel
theorem dX12_isFault_27 : decode cX12_isFault 27 = .ok (.invokevirtual 159, 3) := by decide +kernel
theorem dX12_isFault_30 : decode cX12_isFault 30 = .ok (.aload_n 0, 1) := by decide +kernel
theorem dX12_isFault_31 : decode cX12_isFault 31 = .ok (.iload_n 1, 1) := by decide +kernel
theorem dX12_isFault_32 : decode cX12_isFault 32 = .ok (.iload_n 2, 1) := by decide +kernel
theorem dX12_isFault_33 : decode cX12_isFault 33 = .ok (.iload 5, 2) := by decide +kernel
theorem dX12_isFault_35 : decode cX12_isFault 35 = .ok (.invokevirtual 159, 3) := by decide +kernel
theorem dX12_isFault_38 : decode cX12_isFault 38 = .ok (.isub, 1) := by decide +kernel
theorem dX12_isFault_39 : decode cX12_isFault 39 = .ok (.invokestatic 124, 3) := by decide +kernel
theorem dX12_isFault_42 : decode cX12_isFault 42 = .ok (.ldc2_w 168, 3) := by decide +kernel
theorem dX12_isFault_45 : decode cX12_isFault 45 = .ok (.lcmp, 1) := by decide +kernel
theorem dX12_isFault_46 : decode cX12_isFault 46 = .ok (.ifCond .ge 7, 3) := by decide +kernel
theorem dX12_isFault_49 : decode cX12_isFault 49 = .ok (.iconst 1, 1) := by decide +kernel
theorem dX12_isFault_50 : decode cX12_isFault 50 = .ok (.goto 4, 3) := by decide +kernel
theorem dX12_isFault_53 : decode cX12_isFault 53 = .ok (.iconst 0, 1) := by decide +kernel
theorem dX12_isFault_54 : decode cX12_isFault 54 = .ok (.ireturn, 1) := by decide +kernel
theorem dX12_isFault_55 : decode cX12_isFault 55 = .ok (.aload_n 0, 1) := by decide +kernel
theorem dX12_isFault_56 : decode cX12_isFault 56 = .ok (.iload_n 1, 1) := by decide +kernel
theorem dX12_isFault_57 : decode cX12_isFault 57 = .ok (.iload_n 2, 1) := by decide +kernel
theorem dX12_isFault_58 : decode cX12_isFault 58 = .ok (.iload 4, 2) := by decide +kernel
theorem dX12_isFault_60 : decode cX12_isFault 60 = .ok (.iload 5, 2) := by decide +kernel
theorem dX12_isFault_62 : decode cX12_isFault 62 = .ok (.invokevirtual 170, 3) := by decide +kernel
theorem dX12_isFault_65 : decode cX12_isFault 65 = .ok (.ireturn, 1) := by decide +kernel
def fX12_isFault (m : dM) (p0 : Nat) (p1 : Int32) (p2 : Int32) (p3 : Int32) (p4 : Int32) (p5 : Int32) : Option Int32 := dg (dkg p0 13) (if p3 = 1 then (fX12_xAt m p0 p1 p2 p4).bind (fun v4 => (fX12_xAt m p0 p1 p2 p5).bind (fun v6 => (fX12_yAt m p0 p1 p2 p4).bind (fun v8 => (fX12_yAt m p0 p1 p2 p5).bind (fun v10 => (fX12_square m (v4 - v6) (v8 - v10)).bind (fun v12 => if 0 ≤ (lg_cmp v12 100) then some 0 else some 1))))) else (fX12_areCrossing m p0 p1 p2 p4 p5).bind (fun v2 => dg (dB v2) (some v2)))
set_option maxHeartbeats 4000000 in
set_option maxRecDepth 100000 in
theorem kX12_isFault (l : Launch) (g : dG) {m : dM} {p0 : Nat} {p1 : Int32} {p2 : Int32} {p3 : Int32} {p4 : Int32} {p5 : Int32} {r0 : Int32} (h : fX12_isFault m p0 p1 p2 p3 p4 p5 = some r0) : dMet l g yX12_isFault wsX12_isFault (dRm 4 100) [.ref (dad g p0), .int p1, .int p2, .int p3, .int p4, .int p5] m (dQI g r0 m) := by
  refine dof (cc := cX12_isFault) (maxL := 6) (ret := (some .boolean)) _ (plainFor_of_name (by decide)) rfl (Nat.le_of_ble_eq_true rfl) ?_
  intro p e s mth below meth c S hr hlk hE H ls hP hS hl
  have S : CallFix p mth c cX12_isFault 6 s _ wsX12_isFault RX12 := S
  have hl : lv_has ls 6 [(0, .ref (dad g p0)), (1, .int p1), (2, .int p2), (3, .int p3), (4, .int p4), (5, .int p5)] := hl
  obtain ⟨locs, hlocs⟩ : ∃ z : List Loc, z = [] := ⟨_, rfl⟩
  rw [← hlocs] at hS ⊢
  unfold fX12_isFault at h
  obtain ⟨k0, h⟩ := d_g h
  have k0 := d_k k0
  refine lv_iload_n S.1 S.2.1 dX12_isFault_0 rfl (lv_at hl 3 rfl) ?_
  refine lv_iconst (v := 1) S.1 S.2.1 dX12_isFault_1 (by decide) ?_
  refine lv_icmp_ne (tgt := 55) S.1 S.2.1 dX12_isFault_2 (by decide) (fun cq => ?_) (fun cq => ?_)
  · have h := d_f cq h
    refine lv_aload_n S.1 S.2.1 dX12_isFault_55 rfl (lv_at hl 0 rfl) ?_
    refine lv_iload_n S.1 S.2.1 dX12_isFault_56 rfl (lv_at hl 1 rfl) ?_
    refine lv_iload_n S.1 S.2.1 dX12_isFault_57 rfl (lv_at hl 2 rfl) ?_
    refine lv_iload S.1 S.2.1 dX12_isFault_58 (lv_at hl 4 rfl) ?_
    refine lv_iload S.1 S.2.1 dX12_isFault_60 (lv_at hl 5 rfl) ?_
    obtain ⟨v2, hc1, h⟩ := d_b h
    refine dri (va_runV (As := [.int p1, .int p2, .int p4, .int p5]) (rest := []) S (kX12_areCrossing l g hc1) (cwV 4 S.2.2.2.2 gX12_isFault_X12_areCrossing rfl rfl rfl ynX12_areCrossing ⟨Nat.le_of_ble_eq_true rfl, Nat.le_of_ble_eq_true rfl⟩) (dpV hE hP hS (ci := 12) rfl (dat13 k0)) rfl rfl hl.1 rfl (lv_room (Nat.le_of_ble_eq_true rfl)) dX12_isFault_62 ⟨Nat.le_of_ble_eq_true rfl, Nat.le_of_ble_eq_true rfl⟩) hS (fun H locs hP hS => ?_)
    obtain ⟨hb, h⟩ := d_g h
    obtain rfl := Option.some.inj h
    exact dti S hr hlk hE hP hS (dB_nar2 hb) dX12_isFault_65
  · have h := d_t cq h
    refine lv_aload_n S.1 S.2.1 dX12_isFault_5 rfl (lv_at hl 0 rfl) ?_
    refine lv_iload_n S.1 S.2.1 dX12_isFault_6 rfl (lv_at hl 1 rfl) ?_
    refine lv_iload_n S.1 S.2.1 dX12_isFault_7 rfl (lv_at hl 2 rfl) ?_
    refine lv_iload S.1 S.2.1 dX12_isFault_8 (lv_at hl 4 rfl) ?_
    obtain ⟨v4, hc3, h⟩ := d_b h
    refine dri (va_runV (As := [.int p1, .int p2, .int p4]) (rest := []) S (kX12_xAt l g hc3) (cwV 3 S.2.2.2.2 gX12_isFault_X12_xAt rfl rfl rfl ynX12_xAt ⟨Nat.le_of_ble_eq_true rfl, Nat.le_of_ble_eq_true rfl⟩) (dpV hE hP hS (ci := 12) rfl (dat13 k0)) rfl rfl hl.1 rfl (lv_room (Nat.le_of_ble_eq_true rfl)) dX12_isFault_10 ⟨Nat.le_of_ble_eq_true rfl, Nat.le_of_ble_eq_true rfl⟩) hS (fun H locs hP hS => ?_)
    refine lv_aload_n S.1 S.2.1 dX12_isFault_13 rfl (lv_at hl 0 rfl) ?_
    refine lv_iload_n S.1 S.2.1 dX12_isFault_14 rfl (lv_at hl 1 rfl) ?_
    refine lv_iload_n S.1 S.2.1 dX12_isFault_15 rfl (lv_at hl 2 rfl) ?_
    refine lv_iload S.1 S.2.1 dX12_isFault_16 (lv_at hl 5 rfl) ?_
    obtain ⟨v6, hc5, h⟩ := d_b h
    refine dri (va_runV (As := [.int p1, .int p2, .int p5]) (rest := [.int v4]) S (kX12_xAt l g hc5) (cwV 3 S.2.2.2.2 gX12_isFault_X12_xAt rfl rfl rfl ynX12_xAt ⟨Nat.le_of_ble_eq_true rfl, Nat.le_of_ble_eq_true rfl⟩) (dpV hE hP hS (ci := 12) rfl (dat13 k0)) rfl rfl hl.1 rfl (lv_room (Nat.le_of_ble_eq_true rfl)) dX12_isFault_18 ⟨Nat.le_of_ble_eq_true rfl, Nat.le_of_ble_eq_true rfl⟩) hS (fun H locs hP hS => ?_)
    refine lv_isub S.1 S.2.1 dX12_isFault_21 ?_
    refine lv_aload_n S.1 S.2.1 dX12_isFault_22 rfl (lv_at hl 0 rfl) ?_
    refine lv_iload_n S.1 S.2.1 dX12_isFault_23 rfl (lv_at hl 1 rfl) ?_
    refine lv_iload_n S.1 S.2.1 dX12_isFault_24 rfl (lv_at hl 2 rfl) ?_
    refine lv_iload S.1 S.2.1 dX12_isFault_25 (lv_at hl 4 rfl) ?_
    obtain ⟨v8, hc7, h⟩ := d_b h
    refine dri (va_runV (As := [.int p1, .int p2, .int p4]) (rest := [.int (v4 - v6)]) S (kX12_yAt l g hc7) (cwV 3 S.2.2.2.2 gX12_isFault_X12_yAt rfl rfl rfl ynX12_yAt ⟨Nat.le_of_ble_eq_true rfl, Nat.le_of_ble_eq_true rfl⟩) (dpV hE hP hS (ci := 12) rfl (dat13 k0)) rfl rfl hl.1 rfl (lv_room (Nat.le_of_ble_eq_true rfl)) dX12_isFault_27 ⟨Nat.le_of_ble_eq_true rfl, Nat.le_of_ble_eq_true rfl⟩) hS (fun H locs hP hS => ?_)
    refine lv_aload_n S.1 S.2.1 dX12_isFault_30 rfl (lv_at hl 0 rfl) ?_
    refine lv_iload_n S.1 S.2.1 dX12_isFault_31 rfl (lv_at hl 1 rfl) ?_
    refine lv_iload_n S.1 S.2.1 dX12_isFault_32 rfl (lv_at hl 2 rfl) ?_
    refine lv_iload S.1 S.2.1 dX12_isFault_33 (lv_at hl 5 rfl) ?_
    obtain ⟨v10, hc9, h⟩ := d_b h
    refine dri (va_runV (As := [.int p1, .int p2, .int p5]) (rest := [.int v8, .int (v4 - v6)]) S (kX12_yAt l g hc9) (cwV 3 S.2.2.2.2 gX12_isFault_X12_yAt rfl rfl rfl ynX12_yAt ⟨Nat.le_of_ble_eq_true rfl, Nat.le_of_ble_eq_true rfl⟩) (dpV hE hP hS (ci := 12) rfl (dat13 k0)) rfl rfl hl.1 rfl (lv_room (Nat.le_of_ble_eq_true rfl)) dX12_isFault_35 ⟨Nat.le_of_ble_eq_true rfl, Nat.le_of_ble_eq_true rfl⟩) hS (fun H locs hP hS => ?_)
    refine lv_isub S.1 S.2.1 dX12_isFault_38 ?_
    obtain ⟨v12, hc11, h⟩ := d_b h
    refine drj (va_runS (As := [.int (v4 - v6), .int (v8 - v10)]) (rest := []) S (kX12_square l g hc11) (va_cwS 2 S.2.2.2.2 gX12_isFault_X12_square rfl rfl rfl ynX12_square ⟨Nat.le_of_ble_eq_true rfl, Nat.le_of_ble_eq_true rfl⟩) (dpS hE hP hS) rfl rfl hl.1 rfl (lv_room (Nat.le_of_ble_eq_true rfl)) dX12_isFault_39 ⟨Nat.le_of_ble_eq_true rfl, Nat.le_of_ble_eq_true rfl⟩) hS (fun H locs hP hS => ?_)
    refine lv_ldc2 (v := 100) S.1 S.2.1 S.2.2.2.1 (S.2.2.2.2 (.constantLong RX12 168 (100)) (List.mem_of_getElem? (i := 1) rfl)) dX12_isFault_42 ?_
    refine W.lcmp S.1 S.2.1 dX12_isFault_45 ?_
    refine lv_if_ge (tgt := 53) S.1 S.2.1 dX12_isFault_46 (by decide) (fun cq => ?_) (fun cq => ?_)
    · have h := d_t cq h
      refine lv_iconst (v := 0) S.1 S.2.1 dX12_isFault_53 (by decide) ?_
      obtain rfl := Option.some.inj h
      exact dti S hr hlk hE hP hS rfl dX12_isFault_54
    · have h := d_f cq h
      refine lv_iconst (v := 1) S.1 S.2.1 dX12_isFault_49 (by decide) ?_
      refine lv_goto (tgt := 54) S.1 S.2.1 dX12_isFault_50 (by decide) ?_
      obtain rfl := Option.some.inj h
      exact dti S hr hlk hE hP hS rfl dX12_isFault_54
set_option maxRecDepth 20000 in
theorem ggX12_looksAtPairs_X12_marches : GoodIn wsX12_looksAtPairs wsX12_marches := goodIn_r _ [10, 11, 12, 13, 62, 63, 64, 65, 66, 67, 68, 69, 70, 71, 72, 73, 74, 75, 76, 77, 78, 79, 80, 81, 82, 83, 84, 85, 86, 87, 88, 89] (by decide +kernel) (by decide +kernel)
set_option maxRecDepth 20000 in
theorem gX12_looksAtPairs_X12_marches : GoodIn wsX12_looksAtPairs (wsV RX12 93 RX12 yX12_marches wsX12_marches) := goodIn_app (goodIn_of _ (by decide +kernel)) ggX12_looksAtPairs_X12_marches
set_option maxRecDepth 20000 in
theorem ggX12_looksAtPairs_X12_isFault : GoodIn wsX12_looksAtPairs wsX12_isFault := goodIn_r _ [17, 18, 19, 20, 21, 9, 22, 23, 24, 25, 26, 27, 28, 29, 30, 31, 32, 33, 34, 35, 36, 37, 38, 39, 40, 41, 42, 43, 44, 45, 46, 47, 48, 49, 50, 51, 52, 53, 54, 55, 56, 57, 58, 59, 60, 61, 62, 63, 64, 65, 66, 67, 68, 69, 70, 71, 72, 73, 74, 75, 76, 77, 78, 79, 80, 81, 82, 83, 84, 85, 86, 87, 88, 89] (by decide +kernel) (by decide +kernel)
set_option maxRecDepth 20000 in
theorem gX12_looksAtPairs_X12_isFault : GoodIn wsX12_looksAtPairs (wsV RX12 193 RX12 yX12_isFault wsX12_isFault) := goodIn_app (goodIn_of _ (by decide +kernel)) ggX12_looksAtPairs_X12_isFault
theorem dX12_looksAtPairs_0 : decode cX12_looksAtPairs 0 = .ok (.aload_n 0, 1) := by decide +kernel
theorem dX12_looksAtPairs_1 : decode cX12_looksAtPairs 1 = .ok (.getfield 7, 3) := by decide +kernel
theorem dX12_looksAtPairs_4 : decode cX12_looksAtPairs 4 = .ok (.iconst 1, 1) := by decide +kernel
theorem dX12_looksAtPairs_5 : decode cX12_looksAtPairs 5 = .ok (.isub, 1) := by decide +kernel
theorem dX12_looksAtPairs_6 : decode cX12_looksAtPairs 6 = .ok (.istore 4, 2) := by decide +kernel
theorem dX12_looksAtPairs_8 : decode cX12_looksAtPairs 8 = .ok (.iload 4, 2) := by decide +kernel
theorem dX12_looksAtPairs_10 : decode cX12_looksAtPairs 10 = .ok (.ifCond .lt 84, 3) := by decide +kernel
theorem dX12_looksAtPairs_13 : decode cX12_looksAtPairs 13 = .ok (.aload_n 0, 1) := by decide +kernel
theorem dX12_looksAtPairs_14 : decode cX12_looksAtPairs 14 = .ok (.getfield 7, 3) := by decide +kernel
theorem dX12_looksAtPairs_17 : decode cX12_looksAtPairs 17 = .ok (.iconst 1, 1) := by decide +kernel
theorem dX12_looksAtPairs_18 : decode cX12_looksAtPairs 18 = .ok (.isub, 1) := by decide +kernel
theorem dX12_looksAtPairs_19 : decode cX12_looksAtPairs 19 = .ok (.istore 5, 2) := by decide +kernel
theorem dX12_looksAtPairs_21 : decode cX12_looksAtPairs 21 = .ok (.iload 5, 2) := by decide +kernel
theorem dX12_looksAtPairs_23 : decode cX12_looksAtPairs 23 = .ok (.iload 4, 2) := by decide +kernel
theorem dX12_looksAtPairs_25 : decode cX12_looksAtPairs 25 = .ok (.if_icmp .le 63, 3) := by decide +kernel
theorem dX12_looksAtPairs_28 : decode cX12_looksAtPairs 28 = .ok (.aload_n 0, 1) := by decide +kernel
theorem dX12_looksAtPairs_29 : decode cX12_looksAtPairs 29 = .ok (.iload 4, 2) := by decide +kernel
theorem dX12_looksAtPairs_31 : decode cX12_looksAtPairs 31 = .ok (.invokevirtual 93, 3) := by decide +kernel
theorem dX12_looksAtPairs_34 : decode cX12_looksAtPairs 34 = .ok (.ifCond .eq 48, 3) := by decide +kernel
theorem dX12_looksAtPairs_37 : decode cX12_looksAtPairs 37 = .ok (.aload_n 0, 1) := by decide +kernel
theorem dX12_looksAtPairs_38 : decode cX12_looksAtPairs 38 = .ok (.iload 5, 2) := by decide +kernel
theorem dX12_looksAtPairs_40 : decode cX12_looksAtPairs 40 = .ok (.invokevirtual 93, 3) := by decide +kernel
theorem dX12_looksAtPairs_43 : decode cX12_looksAtPairs 43 = .ok (.ifCond .eq 39, 3) := by decide +kernel
theorem dX12_looksAtPairs_46 : decode cX12_looksAtPairs 46 = .ok (.aload_n 0, 1) := by decide +kernel
theorem dX12_looksAtPairs_47 : decode cX12_looksAtPairs 47 = .ok (.iload_n 1, 1) := by decide +kernel
theorem dX12_looksAtPairs_48 : decode cX12_looksAtPairs 48 = .ok (.iload_n 2, 1) := by decide +kernel
theorem dX12_looksAtPairs_49 : decode cX12_looksAtPairs 49 = .ok (.iload_n 3, 1) := by decide +kernel
theorem dX12_looksAtPairs_50 : decode cX12_looksAtPairs 50 = .ok (.iload 4, 2) := by decide +kernel
theorem dX12_looksAtPairs_52 : decode cX12_looksAtPairs 52 = .ok (.iload 5, 2) := by decide +kernel
theorem dX12_looksAtPairs_54 : decode cX12_looksAtPairs 54 = .ok (.invokevirtual 193, 3) := by decide +kernel
theorem dX12_looksAtPairs_57 : decode cX12_looksAtPairs 57 = .ok (.ifCond .eq 25, 3) := by decide +kernel
theorem dX12_looksAtPairs_60 : decode cX12_looksAtPairs 60 = .ok (.aload_n 0, 1) := by decide +kernel
theorem dX12_looksAtPairs_61 : decode cX12_looksAtPairs 61 = .ok (.iload_n 2, 1) := by decide +kernel
theorem dX12_looksAtPairs_62 : decode cX12_looksAtPairs 62 = .ok (.putfield 174, 3) := by decide +kernel
theorem dX12_looksAtPairs_65 : decode cX12_looksAtPairs 65 = .ok (.aload_n 0, 1) := by decide +kernel
theorem dX12_looksAtPairs_66 : decode cX12_looksAtPairs 66 = .ok (.iload_n 3, 1) := by decide +kernel
theorem dX12_looksAtPairs_67 : decode cX12_looksAtPairs 67 = .ok (.putfield 177, 3) := by decide +kernel
theorem dX12_looksAtPairs_70 : decode cX12_looksAtPairs 70 = .ok (.aload_n 0, 1) := by decide +kernel
theorem dX12_looksAtPairs_71 : decode cX12_looksAtPairs 71 = .ok (.iload 4, 2) := by decide +kernel
theorem dX12_looksAtPairs_73 : decode cX12_looksAtPairs 73 = .ok (.putfield 180, 3) := by decide +kernel
theorem dX12_looksAtPairs_76 : decode cX12_looksAtPairs 76 = .ok (.aload_n 0, 1) := by decide +kernel
theorem dX12_looksAtPairs_77 : decode cX12_looksAtPairs 77 = .ok (.iload 5, 2) := by decide +kernel
theorem dX12_looksAtPairs_79 : decode cX12_looksAtPairs 79 = .ok (.putfield 183, 3) := by decide +kernel
theorem dX12_looksAtPairs_82 : decode cX12_looksAtPairs 82 = .ok (.iinc 5 (-1), 3) := by decide +kernel
theorem dX12_looksAtPairs_85 : decode cX12_looksAtPairs 85 = .ok (.goto (-64), 3) := by decide +kernel
theorem dX12_looksAtPairs_88 : decode cX12_looksAtPairs 88 = .ok (.iinc 4 (-1), 3) := by decide +kernel
theorem dX12_looksAtPairs_91 : decode cX12_looksAtPairs 91 = .ok (.goto (-83), 3) := by decide +kernel
theorem dX12_looksAtPairs_94 : decode cX12_looksAtPairs 94 = .ok (.return_, 1) := by decide +kernel
def fX12_looksAtPairs_l21 (p0 : Nat) (p1 : Int32) (p2 : Int32) (p3 : Int32) (v3 : Int32) (v41 : Int32) (m42 : dM) : Option ((Int32 × dM) ⊕ dM) := if v41 ≤ v3 then some (.inr m42) else (fX12_marches m42 p0 v3).bind (fun v58 => if v58 = 0 then dlet (v41 + (-1) : Int32) (fun v59 => some (.inl (v59, m42))) else (fX12_marches m42 p0 v41).bind (fun v61 => if v61 = 0 then dlet (v41 + (-1) : Int32) (fun v62 => some (.inl (v62, m42))) else (fX12_isFault m42 p0 p1 p2 p3 v3 v41).bind (fun v64 => if v64 = 0 then dlet (v41 + (-1) : Int32) (fun v65 => some (.inl (v65, m42))) else dlet (d1 m42 p0 21 p2) (fun m66 => dlet (d1 m66 p0 22 p3) (fun m67 => dlet (d1 m67 p0 23 v3) (fun m68 => dlet (d1 m68 p0 24 v41) (fun m69 => dlet (v41 + (-1) : Int32) (fun v70 => some (.inl (v70, m69))))))))))
def fX12_looksAtPairs_l8 (p0 : Nat) (p1 : Int32) (p2 : Int32) (p3 : Int32) (v3 : Int32) (m4 : dM) : Option ((Int32 × dM) ⊕ dM) := if v3 < 0 then some (.inr m4) else dlet ((m4.1 p0 0) - 1 : Int32) (fun v39 => (dlp (fun q => dP2 q (fun v41 m42 => fX12_looksAtPairs_l21 p0 p1 p2 p3 v3 v41 m42)) dFl (v39, m4)).bind (fun q => dP1 q (fun m71 => dlet (v3 + (-1) : Int32) (fun v72 => some (.inl (v72, m71))))))
def fX12_looksAtPairs (m : dM) (p0 : Nat) (p1 : Int32) (p2 : Int32) (p3 : Int32) : Option dM := dg (dkg p0 13) (dlet ((m.1 p0 0) - 1 : Int32) (fun v1 => (dlp (fun q => dP2 q (fun v3 m4 => fX12_looksAtPairs_l8 p0 p1 p2 p3 v3 m4)) dFl (v1, m)).bind (fun q => dP1 q (fun m73 => some m73))))
set_option maxHeartbeats 4000000 in
set_option maxRecDepth 100000 in
theorem kX12_looksAtPairs (l : Launch) (g : dG) {m : dM} {p0 : Nat} {p1 : Int32} {p2 : Int32} {p3 : Int32} {m0 : dM} (h : fX12_looksAtPairs m p0 p1 p2 p3 = some m0) : dMet l g yX12_looksAtPairs wsX12_looksAtPairs (dRm 5 125) [.ref (dad g p0), .int p1, .int p2, .int p3] m (dQV g m0) := by
  refine dof (cc := cX12_looksAtPairs) (maxL := 6) (ret := none) _ (plainFor_of_name (by decide)) rfl (Nat.le_of_ble_eq_true rfl) ?_
  intro p e s mth below meth c S hr hlk hE H ls hP hS hl
  have S : CallFix p mth c cX12_looksAtPairs 6 s _ wsX12_looksAtPairs RX12 := S
  have hl : lv_has ls 6 [(0, .ref (dad g p0)), (1, .int p1), (2, .int p2), (3, .int p3)] := hl
  obtain ⟨locs, hlocs⟩ : ∃ z : List Loc, z = [] := ⟨_, rfl⟩
  rw [← hlocs] at hS ⊢
  have in12 : ∀ w ∈ wsX120, w ∈ wsX12_looksAtPairs := by decide +kernel
  unfold fX12_looksAtPairs at h
  obtain ⟨k0, h⟩ := d_g h
  have k0 := d_k k0
  refine lv_aload_n S.1 S.2.1 dX12_looksAtPairs_0 rfl (lv_at hl 0 rfl) ?_
  refine dgf12_0 S in12 hE hP k0 (S.2.2.2.2 (.fieldLink RX12 7 "DrillFieldModel" "dots" "I") (List.mem_of_getElem? (i := 1) rfl)) dX12_looksAtPairs_1 ?_
  refine lv_iconst (v := 1) S.1 S.2.1 dX12_looksAtPairs_4 (by decide) ?_
  refine lv_isub S.1 S.2.1 dX12_looksAtPairs_5 ?_
  refine lv_topi (fun v1 ev1 => ?_)
  have h := d_let ev1 h
  refine lv_istore (lv' := [(4, .int v1), (0, .ref (dad g p0)), (1, .int p1), (2, .int p2), (3, .int p3)]) S.1 S.2.1 dX12_looksAtPairs_6 hl (by decide) rfl (fun ls hl => ?_)
  obtain ⟨qL2, hqL2, h⟩ := d_b h
  refine d_lp (Hd := fun q => match q with | (v3, m4) => ∀ (H : Heap) (locs : List Loc) (ls : Array Slot), va_P g.1 vwCl (dws g m4) H → va_S (dA g) s.heap H locs → lv_has ls 6 [(4, .int v3), (0, .ref (dad g p0)), (1, .int p1), (2, .int p2), (3, .int p3)] → W p l e (headSpec wsX12_looksAtPairs (dRm 5 125)).room s mth (([.ref (dad g p0), .int p1, .int p2, .int p3] : List Value).toArray) below meth c H locs 0 0 (MQ below (dQV g m0) (([.ref (dad g p0), .int p1, .int p2, .int p3] : List Value).toArray) s 0 0 (dA g)) (F0 mth 8 ls [])) (K := fun q => (fun (m73 : _) => ∀ (H : Heap) (locs : List Loc) (ls : Array Slot), va_P g.1 vwCl (dws g m73) H → va_S (dA g) s.heap H locs → lv_has ls 6 [] → W p l e (headSpec wsX12_looksAtPairs (dRm 5 125)).room s mth (([.ref (dad g p0), .int p1, .int p2, .int p3] : List Value).toArray) below meth c H locs 0 0 (MQ below (dQV g m0) (([.ref (dad g p0), .int p1, .int p2, .int p3] : List Value).toArray) s 0 0 (dA g)) (F0 mth 94 ls [])) q) ?_ dFl _ qL2 hqL2 ?_ H locs ls hP hS (lv_sub hl [0, 1, 2, 3, 4] rfl)
  · intro q o h hCL2 hEL2
    obtain ⟨v3, m4⟩ := q
    have h : fX12_looksAtPairs_l8 p0 p1 p2 p3 v3 m4 = some o := h
    intro H locs ls hP hS hl
    have hP : va_P g.1 vwCl (dws g m4) H := hP
    have hl : lv_has ls 6 [(4, .int v3), (0, .ref (dad g p0)), (1, .int p1), (2, .int p2), (3, .int p3)] := hl
    unfold fX12_looksAtPairs_l8 at h
    refine lv_iload S.1 S.2.1 dX12_looksAtPairs_8 (lv_at hl 0 rfl) ?_
    refine lv_if_lt (tgt := 94) S.1 S.2.1 dX12_looksAtPairs_10 (by decide) (fun cq => ?_) (fun cq => ?_)
    · have h := d_t cq h
      obtain rfl := Option.some.inj h
      exact hEL2 _ rfl H locs ls hP hS (lv_sub hl [] rfl)
    · have h := d_f cq h
      refine lv_aload_n S.1 S.2.1 dX12_looksAtPairs_13 rfl (lv_at hl 1 rfl) ?_
      refine dgf12_0 S in12 hE hP k0 (S.2.2.2.2 (.fieldLink RX12 7 "DrillFieldModel" "dots" "I") (List.mem_of_getElem? (i := 1) rfl)) dX12_looksAtPairs_14 ?_
      refine lv_iconst (v := 1) S.1 S.2.1 dX12_looksAtPairs_17 (by decide) ?_
      refine lv_isub S.1 S.2.1 dX12_looksAtPairs_18 ?_
      refine lv_topi (fun v39 ev39 => ?_)
      have h := d_let ev39 h
      refine lv_istore (lv' := [(5, .int v39), (4, .int v3), (0, .ref (dad g p0)), (1, .int p1), (2, .int p2), (3, .int p3)]) S.1 S.2.1 dX12_looksAtPairs_19 hl (by decide) rfl (fun ls hl => ?_)
      obtain ⟨qL40, hqL40, h⟩ := d_b h
      refine d_lp (Hd := fun q => match q with | (v41, m42) => ∀ (H : Heap) (locs : List Loc) (ls : Array Slot), va_P g.1 vwCl (dws g m42) H → va_S (dA g) s.heap H locs → lv_has ls 6 [(5, .int v41), (4, .int v3), (0, .ref (dad g p0)), (1, .int p1), (2, .int p2), (3, .int p3)] → W p l e (headSpec wsX12_looksAtPairs (dRm 5 125)).room s mth (([.ref (dad g p0), .int p1, .int p2, .int p3] : List Value).toArray) below meth c H locs 0 0 (MQ below (dQV g m0) (([.ref (dad g p0), .int p1, .int p2, .int p3] : List Value).toArray) s 0 0 (dA g)) (F0 mth 21 ls [])) (K := fun q => (fun (m71 : _) => ∀ (H : Heap) (locs : List Loc) (ls : Array Slot), va_P g.1 vwCl (dws g m71) H → va_S (dA g) s.heap H locs → lv_has ls 6 [(0, .ref (dad g p0)), (1, .int p1), (2, .int p2), (3, .int p3), (4, .int v3)] → W p l e (headSpec wsX12_looksAtPairs (dRm 5 125)).room s mth (([.ref (dad g p0), .int p1, .int p2, .int p3] : List Value).toArray) below meth c H locs 0 0 (MQ below (dQV g m0) (([.ref (dad g p0), .int p1, .int p2, .int p3] : List Value).toArray) s 0 0 (dA g)) (F0 mth 88 ls [])) q) ?_ dFl _ qL40 hqL40 ?_ H locs ls hP hS (lv_sub hl [0, 1, 2, 3, 4, 5] rfl)
      · intro q o h hCL40 hEL40
        obtain ⟨v41, m42⟩ := q
        have h : fX12_looksAtPairs_l21 p0 p1 p2 p3 v3 v41 m42 = some o := h
        intro H locs ls hP hS hl
        have hP : va_P g.1 vwCl (dws g m42) H := hP
        have hl : lv_has ls 6 [(5, .int v41), (4, .int v3), (0, .ref (dad g p0)), (1, .int p1), (2, .int p2), (3, .int p3)] := hl
        unfold fX12_looksAtPairs_l21 at h
        refine lv_iload S.1 S.2.1 dX12_looksAtPairs_21 (lv_at hl 0 rfl) ?_
        refine lv_iload S.1 S.2.1 dX12_looksAtPairs_23 (lv_at hl 1 rfl) ?_
        refine lv_icmp_le (tgt := 88) S.1 S.2.1 dX12_looksAtPairs_25 (by decide) (fun cq => ?_) (fun cq => ?_)
        · have h := d_t cq h
          obtain rfl := Option.some.inj h
          exact hEL40 _ rfl H locs ls hP hS (lv_sub hl [2, 3, 4, 5, 1] rfl)
        · have h := d_f cq h
          refine lv_aload_n S.1 S.2.1 dX12_looksAtPairs_28 rfl (lv_at hl 2 rfl) ?_
          refine lv_iload S.1 S.2.1 dX12_looksAtPairs_29 (lv_at hl 1 rfl) ?_
          obtain ⟨v58, hc57, h⟩ := d_b h
          refine dri (va_runV (As := [.int v3]) (rest := []) S (kX12_marches l g hc57) (cwV 1 S.2.2.2.2 gX12_looksAtPairs_X12_marches rfl rfl rfl ynX12_marches ⟨Nat.le_of_ble_eq_true rfl, Nat.le_of_ble_eq_true rfl⟩) (dpV hE hP hS (ci := 12) rfl (dat13 k0)) rfl rfl hl.1 rfl (lv_room (Nat.le_of_ble_eq_true rfl)) dX12_looksAtPairs_31 ⟨Nat.le_of_ble_eq_true rfl, Nat.le_of_ble_eq_true rfl⟩) hS (fun H locs hP hS => ?_)
          refine lv_if_eq (tgt := 82) S.1 S.2.1 dX12_looksAtPairs_34 (by decide) (fun cq => ?_) (fun cq => ?_)
          · have h := d_t cq h
            obtain ⟨v59, ev59⟩ : ∃ z : Int32, z = v41 + (-1) := ⟨_, rfl⟩
            have h := d_let ev59 h
            refine lv_iinc (v := v59) (lv' := [(5, .int v59), (4, .int v3), (0, .ref (dad g p0)), (1, .int p1), (2, .int p2), (3, .int p3)]) S.1 S.2.1 dX12_looksAtPairs_82 hl (k := 0) rfl (by rw [ev59]; rfl) (by decide) rfl (fun ls hl => ?_)
            refine lv_goto (tgt := 21) S.1 S.2.1 dX12_looksAtPairs_85 (by decide) ?_
            obtain rfl := Option.some.inj h
            exact hCL40 _ rfl H locs ls hP hS (lv_sub hl [0, 1, 2, 3, 4, 5] rfl)
          · have h := d_f cq h
            refine lv_aload_n S.1 S.2.1 dX12_looksAtPairs_37 rfl (lv_at hl 2 rfl) ?_
            refine lv_iload S.1 S.2.1 dX12_looksAtPairs_38 (lv_at hl 0 rfl) ?_
            obtain ⟨v61, hc60, h⟩ := d_b h
            refine dri (va_runV (As := [.int v41]) (rest := []) S (kX12_marches l g hc60) (cwV 1 S.2.2.2.2 gX12_looksAtPairs_X12_marches rfl rfl rfl ynX12_marches ⟨Nat.le_of_ble_eq_true rfl, Nat.le_of_ble_eq_true rfl⟩) (dpV hE hP hS (ci := 12) rfl (dat13 k0)) rfl rfl hl.1 rfl (lv_room (Nat.le_of_ble_eq_true rfl)) dX12_looksAtPairs_40 ⟨Nat.le_of_ble_eq_true rfl, Nat.le_of_ble_eq_true rfl⟩) hS (fun H locs hP hS => ?_)
            refine lv_if_eq (tgt := 82) S.1 S.2.1 dX12_looksAtPairs_43 (by decide) (fun cq => ?_) (fun cq => ?_)
            · have h := d_t cq h
              obtain ⟨v62, ev62⟩ : ∃ z : Int32, z = v41 + (-1) := ⟨_, rfl⟩
              have h := d_let ev62 h
              refine lv_iinc (v := v62) (lv' := [(5, .int v62), (4, .int v3), (0, .ref (dad g p0)), (1, .int p1), (2, .int p2), (3, .int p3)]) S.1 S.2.1 dX12_looksAtPairs_82 hl (k := 0) rfl (by rw [ev62]; rfl) (by decide) rfl (fun ls hl => ?_)
              refine lv_goto (tgt := 21) S.1 S.2.1 dX12_looksAtPairs_85 (by decide) ?_
              obtain rfl := Option.some.inj h
              exact hCL40 _ rfl H locs ls hP hS (lv_sub hl [0, 1, 2, 3, 4, 5] rfl)
            · have h := d_f cq h
              refine lv_aload_n S.1 S.2.1 dX12_looksAtPairs_46 rfl (lv_at hl 2 rfl) ?_
              refine lv_iload_n S.1 S.2.1 dX12_looksAtPairs_47 rfl (lv_at hl 3 rfl) ?_
              refine lv_iload_n S.1 S.2.1 dX12_looksAtPairs_48 rfl (lv_at hl 4 rfl) ?_
              refine lv_iload_n S.1 S.2.1 dX12_looksAtPairs_49 rfl (lv_at hl 5 rfl) ?_
              refine lv_iload S.1 S.2.1 dX12_looksAtPairs_50 (lv_at hl 1 rfl) ?_
              refine lv_iload S.1 S.2.1 dX12_looksAtPairs_52 (lv_at hl 0 rfl) ?_
              obtain ⟨v64, hc63, h⟩ := d_b h
              refine dri (va_runV (As := [.int p1, .int p2, .int p3, .int v3, .int v41]) (rest := []) S (kX12_isFault l g hc63) (cwV 5 S.2.2.2.2 gX12_looksAtPairs_X12_isFault rfl rfl rfl ynX12_isFault ⟨Nat.le_of_ble_eq_true rfl, Nat.le_of_ble_eq_true rfl⟩) (dpV hE hP hS (ci := 12) rfl (dat13 k0)) rfl rfl hl.1 rfl (lv_room (Nat.le_of_ble_eq_true rfl)) dX12_looksAtPairs_54 ⟨Nat.le_of_ble_eq_true rfl, Nat.le_of_ble_eq_true rfl⟩) hS (fun H locs hP hS => ?_)
              refine lv_if_eq (tgt := 82) S.1 S.2.1 dX12_looksAtPairs_57 (by decide) (fun cq => ?_) (fun cq => ?_)
              · have h := d_t cq h
                obtain ⟨v65, ev65⟩ : ∃ z : Int32, z = v41 + (-1) := ⟨_, rfl⟩
                have h := d_let ev65 h
                refine lv_iinc (v := v65) (lv' := [(5, .int v65), (4, .int v3), (0, .ref (dad g p0)), (1, .int p1), (2, .int p2), (3, .int p3)]) S.1 S.2.1 dX12_looksAtPairs_82 hl (k := 0) rfl (by rw [ev65]; rfl) (by decide) rfl (fun ls hl => ?_)
                refine lv_goto (tgt := 21) S.1 S.2.1 dX12_looksAtPairs_85 (by decide) ?_
                obtain rfl := Option.some.inj h
                exact hCL40 _ rfl H locs ls hP hS (lv_sub hl [0, 1, 2, 3, 4, 5] rfl)
              · have h := d_f cq h
                refine lv_aload_n S.1 S.2.1 dX12_looksAtPairs_60 rfl (lv_at hl 2 rfl) ?_
                refine lv_iload_n S.1 S.2.1 dX12_looksAtPairs_61 rfl (lv_at hl 4 rfl) ?_
                refine dpf12_21 S in12 hE hP hS k0 (S.2.2.2.2 (.fieldLink RX12 174 "DrillFieldModel" "faultCount" "I") (List.mem_of_getElem? (i := 2) rfl)) dX12_looksAtPairs_62 (fun H locs hP hS => ?_)
                obtain ⟨m66, em66⟩ : ∃ z : dM, z = d1 m42 p0 21 p2 := ⟨_, rfl⟩
                have h := d_let em66 h
                rw [← em66] at hP
                refine lv_aload_n S.1 S.2.1 dX12_looksAtPairs_65 rfl (lv_at hl 2 rfl) ?_
                refine lv_iload_n S.1 S.2.1 dX12_looksAtPairs_66 rfl (lv_at hl 5 rfl) ?_
                refine dpf12_22 S in12 hE hP hS k0 (S.2.2.2.2 (.fieldLink RX12 177 "DrillFieldModel" "faultKind" "I") (List.mem_of_getElem? (i := 3) rfl)) dX12_looksAtPairs_67 (fun H locs hP hS => ?_)
                obtain ⟨m67, em67⟩ : ∃ z : dM, z = d1 m66 p0 22 p3 := ⟨_, rfl⟩
                have h := d_let em67 h
                rw [← em67] at hP
                refine lv_aload_n S.1 S.2.1 dX12_looksAtPairs_70 rfl (lv_at hl 2 rfl) ?_
                refine lv_iload S.1 S.2.1 dX12_looksAtPairs_71 (lv_at hl 1 rfl) ?_
                refine dpf12_23 S in12 hE hP hS k0 (S.2.2.2.2 (.fieldLink RX12 180 "DrillFieldModel" "faultDot" "I") (List.mem_of_getElem? (i := 4) rfl)) dX12_looksAtPairs_73 (fun H locs hP hS => ?_)
                obtain ⟨m68, em68⟩ : ∃ z : dM, z = d1 m67 p0 23 v3 := ⟨_, rfl⟩
                have h := d_let em68 h
                rw [← em68] at hP
                refine lv_aload_n S.1 S.2.1 dX12_looksAtPairs_76 rfl (lv_at hl 2 rfl) ?_
                refine lv_iload S.1 S.2.1 dX12_looksAtPairs_77 (lv_at hl 0 rfl) ?_
                refine dpf12_24 S in12 hE hP hS k0 (S.2.2.2.2 (.fieldLink RX12 183 "DrillFieldModel" "faultOther" "I") (List.mem_of_getElem? (i := 5) rfl)) dX12_looksAtPairs_79 (fun H locs hP hS => ?_)
                obtain ⟨m69, em69⟩ : ∃ z : dM, z = d1 m68 p0 24 v41 := ⟨_, rfl⟩
                have h := d_let em69 h
                rw [← em69] at hP
                obtain ⟨v70, ev70⟩ : ∃ z : Int32, z = v41 + (-1) := ⟨_, rfl⟩
                have h := d_let ev70 h
                refine lv_iinc (v := v70) (lv' := [(5, .int v70), (4, .int v3), (0, .ref (dad g p0)), (1, .int p1), (2, .int p2), (3, .int p3)]) S.1 S.2.1 dX12_looksAtPairs_82 hl (k := 0) rfl (by rw [ev70]; rfl) (by decide) rfl (fun ls hl => ?_)
                refine lv_goto (tgt := 21) S.1 S.2.1 dX12_looksAtPairs_85 (by decide) ?_
                obtain rfl := Option.some.inj h
                exact hCL40 _ rfl H locs ls hP hS (lv_sub hl [0, 1, 2, 3, 4, 5] rfl)
      · obtain ⟨m71, rfl⟩ : ∃ z, z = qL40 := ⟨_, rfl⟩
        have h := d_p1 h
        intro H locs ls hP hS hl
        have hP : va_P g.1 vwCl (dws g m71) H := hP
        have hl : lv_has ls 6 [(0, .ref (dad g p0)), (1, .int p1), (2, .int p2), (3, .int p3), (4, .int v3)] := hl
        obtain ⟨v72, ev72⟩ : ∃ z : Int32, z = v3 + (-1) := ⟨_, rfl⟩
        have h := d_let ev72 h
        refine lv_iinc (v := v72) (lv' := [(4, .int v72), (0, .ref (dad g p0)), (1, .int p1), (2, .int p2), (3, .int p3)]) S.1 S.2.1 dX12_looksAtPairs_88 hl (k := 4) rfl (by rw [ev72]; rfl) (by decide) rfl (fun ls hl => ?_)
        refine lv_goto (tgt := 8) S.1 S.2.1 dX12_looksAtPairs_91 (by decide) ?_
        obtain rfl := Option.some.inj h
        exact hCL2 _ rfl H locs ls hP hS (lv_sub hl [0, 1, 2, 3, 4] rfl)
  · obtain ⟨m73, rfl⟩ : ∃ z, z = qL2 := ⟨_, rfl⟩
    have h := d_p1 h
    intro H locs ls hP hS hl
    have hP : va_P g.1 vwCl (dws g m73) H := hP
    have hl : lv_has ls 6 [] := hl
    obtain rfl := Option.some.inj h
    exact dtv S hr hlk hE hP hS dX12_looksAtPairs_94
set_option maxRecDepth 20000 in
theorem ggX12_looks_X12_marches : GoodIn wsX12_looks wsX12_marches := goodIn_r _ [11, 12, 13, 14, 72, 73, 74, 75, 76, 77, 78, 79, 80, 81, 82, 83, 84, 85, 86, 87, 88, 89, 90, 91, 92, 93, 94, 95, 96, 97, 98, 99] (by decide +kernel) (by decide +kernel)
set_option maxRecDepth 20000 in
theorem gX12_looks_X12_marches : GoodIn wsX12_looks (wsV RX12 93 RX12 yX12_marches wsX12_marches) := goodIn_app (goodIn_of _ (by decide +kernel)) ggX12_looks_X12_marches
set_option maxRecDepth 20000 in
theorem ggX12_looks_X12_isTooLong : GoodIn wsX12_looks wsX12_isTooLong := goodIn_r _ [18, 19, 20, 21, 22, 23, 10, 24, 5, 25, 26, 27, 28, 29, 30, 31, 32, 33, 34, 35, 36, 37, 38, 39, 40, 41, 42, 43, 44, 45, 46, 47, 48, 49, 50, 51, 52, 53, 54, 72, 73, 74, 75, 76, 77, 78, 79, 80, 81, 82, 83, 84, 85, 86, 87, 88, 89, 90, 91, 92, 93, 94, 95, 96, 97, 98, 99] (by decide +kernel) (by decide +kernel)
set_option maxRecDepth 20000 in
theorem gX12_looks_X12_isTooLong : GoodIn wsX12_looks (wsV RX12 186 RX12 yX12_isTooLong wsX12_isTooLong) := goodIn_app (goodIn_of _ (by decide +kernel)) ggX12_looks_X12_isTooLong
set_option maxRecDepth 20000 in
theorem ggX12_looks_X12_looksAtPairs : GoodIn wsX12_looks wsX12_looksAtPairs := goodIn_r _ [58, 6, 1, 2, 3, 4, 7, 8, 9, 10, 11, 12, 13, 14, 59, 60, 61, 62, 63, 21, 22, 23, 24, 5, 25, 26, 27, 28, 29, 30, 31, 32, 33, 34, 35, 36, 37, 38, 39, 40, 41, 42, 43, 44, 45, 46, 47, 48, 49, 50, 51, 52, 53, 54, 64, 65, 66, 67, 68, 69, 70, 71, 72, 73, 74, 75, 76, 77, 78, 79, 80, 81, 82, 83, 84, 85, 86, 87, 88, 89, 90, 91, 92, 93, 94, 95, 96, 97, 98, 99] (by decide +kernel) (by decide +kernel)
set_option maxRecDepth 20000 in
theorem gX12_looks_X12_looksAtPairs : GoodIn wsX12_looks (wsV RX12 189 RX12 yX12_looksAtPairs wsX12_looksAtPairs) := goodIn_app (goodIn_of _ (by decide +kernel)) ggX12_looks_X12_looksAtPairs
theorem dX12_looks_0 : decode cX12_looks 0 = .ok (.aload_n 0, 1) := by decide +kernel
theorem dX12_looks_1 : decode cX12_looks 1 = .ok (.iconst (-1), 1) := by decide +kernel
theorem dX12_looks_2 : decode cX12_looks 2 = .ok (.putfield 174, 3) := by decide +kernel
theorem dX12_looks_5 : decode cX12_looks 5 = .ok (.aload_n 0, 1) := by decide +kernel
theorem dX12_looks_6 : decode cX12_looks 6 = .ok (.iconst (-1), 1) := by decide +kernel
theorem dX12_looks_7 : decode cX12_looks 7 = .ok (.putfield 177, 3) := by decide +kernel
theorem dX12_looks_10 : decode cX12_looks 10 = .ok (.aload_n 0, 1) := by decide +kernel
theorem dX12_looks_11 : decode cX12_looks 11 = .ok (.iconst (-1), 1) := by decide +kernel
theorem dX12_looks_12 : decode cX12_looks 12 = .ok (.putfield 180, 3) := by decide +kernel
theorem dX12_looks_15 : decode cX12_looks 15 = .ok (.aload_n 0, 1) := by decide +kernel
theorem dX12_looks_16 : decode cX12_looks 16 = .ok (.iconst (-1), 1) := by decide +kernel
theorem dX12_looks_17 : decode cX12_looks 17 = .ok (.putfield 183, 3) := by decide +kernel
theorem dX12_looks_20 : decode cX12_looks 20 = .ok (.iconst 1, 1) := by decide +kernel
theorem dX12_looks_21 : decode cX12_looks 21 = .ok (.istore_n 2, 1) := by decide +kernel
theorem dX12_looks_22 : decode cX12_looks 22 = .ok (.iload_n 2, 1) := by decide +kernel
theorem dX12_looks_23 : decode cX12_looks 23 = .ok (.aload_n 0, 1) := by decide +kernel
theorem dX12_looks_24 : decode cX12_looks 24 = .ok (.getfield 36, 3) := by decide +kernel
theorem dX12_looks_27 : decode cX12_looks 27 = .ok (.iload_n 1, 1) := by decide +kernel
theorem dX12_looks_28 : decode cX12_looks 28 = .ok (.iaload, 1) := by decide +kernel
theorem dX12_looks_29 : decode cX12_looks 29 = .ok (.if_icmp .gt 95, 3) := by decide +kernel
theorem dX12_looks_32 : decode cX12_looks 32 = .ok (.aload_n 0, 1) := by decide +kernel
theorem dX12_looks_33 : decode cX12_looks 33 = .ok (.getfield 174, 3) := by decide +kernel
theorem dX12_looks_36 : decode cX12_looks 36 = .ok (.iconst (-1), 1) := by decide +kernel
theorem dX12_looks_37 : decode cX12_looks 37 = .ok (.if_icmp .ne 87, 3) := by decide +kernel
theorem dX12_looks_40 : decode cX12_looks 40 = .ok (.aload_n 0, 1) := by decide +kernel
theorem dX12_looks_41 : decode cX12_looks 41 = .ok (.getfield 7, 3) := by decide +kernel
theorem dX12_looks_44 : decode cX12_looks 44 = .ok (.iconst 1, 1) := by decide +kernel
theorem dX12_looks_45 : decode cX12_looks 45 = .ok (.isub, 1) := by decide +kernel
theorem dX12_looks_46 : decode cX12_looks 46 = .ok (.istore_n 3, 1) := by decide +kernel
theorem dX12_looks_47 : decode cX12_looks 47 = .ok (.iload_n 3, 1) := by decide +kernel
theorem dX12_looks_48 : decode cX12_looks 48 = .ok (.ifCond .lt 42, 3) := by decide +kernel
theorem dX12_looks_51 : decode cX12_looks 51 = .ok (.aload_n 0, 1) := by decide +kernel
theorem dX12_looks_52 : decode cX12_looks 52 = .ok (.iload_n 3, 1) := by decide +kernel
theorem dX12_looks_53 : decode cX12_looks 53 = .ok (.invokevirtual 93, 3) := by decide +kernel
theorem dX12_looks_56 : decode cX12_looks 56 = .ok (.ifCond .eq 28, 3) := by decide +kernel
theorem dX12_looks_59 : decode cX12_looks 59 = .ok (.aload_n 0, 1) := by decide +kernel
theorem dX12_looks_60 : decode cX12_looks 60 = .ok (.iload_n 1, 1) := by decide +kernel
theorem dX12_looks_61 : decode cX12_looks 61 = .ok (.iload_n 2, 1) := by decide +kernel
theorem dX12_looks_62 : decode cX12_looks 62 = .ok (.iload_n 3, 1) := by decide +kernel
theorem dX12_looks_63 : decode cX12_looks 63 = .ok (.invokevirtual 186, 3) := by decide +kernel
theorem dX12_looks_66 : decode cX12_looks 66 = .ok (.ifCond .eq 18, 3) := by decide +kernel
theorem dX12_looks_69 : decode cX12_looks 69 = .ok (.aload_n 0, 1) := by decide +kernel
theorem dX12_looks_70 : decode cX12_looks 70 = .ok (.iload_n 2, 1) := by decide +kernel
theorem dX12_looks_71 : decode cX12_looks 71 = .ok (.putfield 174, 3) := by decide +kernel
theorem dX12_looks_74 : decode cX12_looks 74 = .ok (.aload_n 0, 1) := by decide +kernel
theorem dX12_looks_75 : decode cX12_looks 75 = .ok (.iconst 0, 1) := by decide +kernel
theorem dX12_looks_76 : decode cX12_looks 76 = .ok (.putfield 177, 3) := by decide +kernel
theorem dX12_looks_79 : decode cX12_looks 79 = .ok (.aload_n 0, 1) := by decide +kernel
theorem dX12_looks_80 : decode cX12_looks 80 = .ok (.iload_n 3, 1) := by decide +kernel
theorem dX12_looks_81 : decode cX12_looks 81 = .ok (.putfield 180, 3) := by decide +kernel
theorem dX12_looks_84 : decode cX12_looks 84 = .ok (.iinc 3 (-1), 3) := by decide +kernel
theorem dX12_looks_87 : decode cX12_looks 87 = .ok (.goto (-40), 3) := by decide +kernel
theorem dX12_looks_90 : decode cX12_looks 90 = .ok (.iconst 1, 1) := by decide +kernel
theorem dX12_looks_91 : decode cX12_looks 91 = .ok (.istore_n 3, 1) := by decide +kernel
theorem dX12_looks_92 : decode cX12_looks 92 = .ok (.iload_n 3, 1) := by decide +kernel
theorem dX12_looks_93 : decode cX12_looks 93 = .ok (.iconst 2, 1) := by decide +kernel
theorem dX12_looks_94 : decode cX12_looks 94 = .ok (.if_icmp .gt 24, 3) := by decide +kernel
theorem dX12_looks_97 : decode cX12_looks 97 = .ok (.aload_n 0, 1) := by decide +kernel
theorem dX12_looks_98 : decode cX12_looks 98 = .ok (.getfield 174, 3) := by decide +kernel
theorem dX12_looks_101 : decode cX12_looks 101 = .ok (.iconst (-1), 1) := by decide +kernel
theorem dX12_looks_102 : decode cX12_looks 102 = .ok (.if_icmp .ne 16, 3) := by decide +kernel
theorem dX12_looks_105 : decode cX12_looks 105 = .ok (.aload_n 0, 1) := by decide +kernel
theorem dX12_looks_106 : decode cX12_looks 106 = .ok (.iload_n 1, 1) := by decide +kernel
theorem dX12_looks_107 : decode cX12_looks 107 = .ok (.iload_n 2, 1) := by decide +kernel
theorem dX12_looks_108 : decode cX12_looks 108 = .ok (.iload_n 3, 1) := by decide +kernel
theorem dX12_looks_109 : decode cX12_looks 109 = .ok (.invokevirtual 189, 3) := by decide +kernel
theorem dX12_looks_112 : decode cX12_looks 112 = .ok (.iinc 3 1, 3) := by decide +kernel
theorem dX12_looks_115 : decode cX12_looks 115 = .ok (.goto (-23), 3) := by decide +kernel
theorem dX12_looks_118 : decode cX12_looks 118 = .ok (.iinc 2 1, 3) := by decide +kernel
theorem dX12_looks_121 : decode cX12_looks 121 = .ok (.goto (-99), 3) := by decide +kernel
theorem dX12_looks_124 : decode cX12_looks 124 = .ok (.return_, 1) := by decide +kernel
def fX12_looks_l47 (p0 : Nat) (p1 : Int32) (v6 : Int32) (v46 : Int32) (m47 : dM) : Option ((Int32 × dM) ⊕ dM) := if v46 < 0 then some (.inr m47) else (fX12_marches m47 p0 v46).bind (fun v59 => if v59 = 0 then dlet (v46 + (-1) : Int32) (fun v60 => some (.inl (v60, m47))) else (fX12_isTooLong m47 p0 p1 v6 v46).bind (fun v62 => if v62 = 0 then dlet (v46 + (-1) : Int32) (fun v63 => some (.inl (v63, m47))) else dlet (d1 m47 p0 21 v6) (fun m64 => dlet (d1 m64 p0 22 0) (fun m65 => dlet (d1 m65 p0 23 v46) (fun m66 => dlet (v46 + (-1) : Int32) (fun v67 => some (.inl (v67, m66))))))))
def fX12_looks_l92 (p0 : Nat) (p1 : Int32) (v6 : Int32) (v70 : Int32) (m71 : dM) : Option ((Int32 × dM) ⊕ dM) := if 2 < v70 then some (.inr m71) else if (m71.1 p0 21) = (-1) then (fX12_looksAtPairs m71 p0 p1 v6 v70).bind (fun m76 => dlet (v70 + 1 : Int32) (fun v77 => some (.inl (v77, m76)))) else some (.inr m71)
def fX12_looks_l22 (p0 : Nat) (p1 : Int32) (v6 : Int32) (m7 : dM) : Option ((Int32 × dM) ⊕ dM) := dg (dIx p1 (dL 452)) (if (m7.1 452 (Int32.toNatClampNeg (p1))) < v6 then some (.inr m7) else if (m7.1 p0 21) = (-1) then dlet ((m7.1 p0 0) - 1 : Int32) (fun v44 => (dlp (fun q => dP2 q (fun v46 m47 => fX12_looks_l47 p0 p1 v6 v46 m47)) dFl (v44, m7)).bind (fun q => dP1 q (fun m68 => (dlp (fun q => dP2 q (fun v70 m71 => fX12_looks_l92 p0 p1 v6 v70 m71)) dFl (1, m68)).bind (fun q => dP1 q (fun m78 => dlet (v6 + 1 : Int32) (fun v79 => some (.inl (v79, m78)))))))) else some (.inr m7))
def fX12_looks (m : dM) (p0 : Nat) (p1 : Int32) : Option dM := dg (dkg p0 13) (dlet (d1 m p0 21 (-1)) (fun m1 => dlet (d1 m1 p0 22 (-1)) (fun m2 => dlet (d1 m2 p0 23 (-1)) (fun m3 => dlet (d1 m3 p0 24 (-1)) (fun m4 => (dlp (fun q => dP2 q (fun v6 m7 => fX12_looks_l22 p0 p1 v6 m7)) dFl (1, m4)).bind (fun q => dP1 q (fun m80 => some m80)))))))
set_option maxHeartbeats 4000000 in
set_option maxRecDepth 100000 in
theorem kX12_looks (l : Launch) (g : dG) {m : dM} {p0 : Nat} {p1 : Int32} {m0 : dM} (h : fX12_looks m p0 p1 = some m0) : dMet l g yX12_looks wsX12_looks (dRm 6 150) [.ref (dad g p0), .int p1] m (dQV g m0) := by
  refine dof (cc := cX12_looks) (maxL := 4) (ret := none) _ (plainFor_of_name (by decide)) rfl (Nat.le_of_ble_eq_true rfl) ?_
  intro p e s mth below meth c S hr hlk hE H ls hP hS hl
  have S : CallFix p mth c cX12_looks 4 s _ wsX12_looks RX12 := S
  have hl : lv_has ls 4 [(0, .ref (dad g p0)), (1, .int p1)] := hl
  obtain ⟨locs, hlocs⟩ : ∃ z : List Loc, z = [] := ⟨_, rfl⟩
  rw [← hlocs] at hS ⊢
  have in12 : ∀ w ∈ wsX120, w ∈ wsX12_looks := by decide +kernel
  unfold fX12_looks at h
  obtain ⟨k0, h⟩ := d_g h
  have k0 := d_k k0
  refine lv_aload_n S.1 S.2.1 dX12_looks_0 rfl (lv_at hl 0 rfl) ?_
  refine lv_iconst (v := (-1)) S.1 S.2.1 dX12_looks_1 (by decide) ?_
  refine dpf12_21 S in12 hE hP hS k0 (S.2.2.2.2 (.fieldLink RX12 174 "DrillFieldModel" "faultCount" "I") (List.mem_of_getElem? (i := 1) rfl)) dX12_looks_2 (fun H locs hP hS => ?_)
  obtain ⟨m1, em1⟩ : ∃ z : dM, z = d1 m p0 21 (-1) := ⟨_, rfl⟩
  have h := d_let em1 h
  rw [← em1] at hP
  refine lv_aload_n S.1 S.2.1 dX12_looks_5 rfl (lv_at hl 0 rfl) ?_
  refine lv_iconst (v := (-1)) S.1 S.2.1 dX12_looks_6 (by decide) ?_
  refine dpf12_22 S in12 hE hP hS k0 (S.2.2.2.2 (.fieldLink RX12 177 "DrillFieldModel" "faultKind" "I") (List.mem_of_getElem? (i := 2) rfl)) dX12_looks_7 (fun H locs hP hS => ?_)
  obtain ⟨m2, em2⟩ : ∃ z : dM, z = d1 m1 p0 22 (-1) := ⟨_, rfl⟩
  have h := d_let em2 h
  rw [← em2] at hP
  refine lv_aload_n S.1 S.2.1 dX12_looks_10 rfl (lv_at hl 0 rfl) ?_
  refine lv_iconst (v := (-1)) S.1 S.2.1 dX12_looks_11 (by decide) ?_
  refine dpf12_23 S in12 hE hP hS k0 (S.2.2.2.2 (.fieldLink RX12 180 "DrillFieldModel" "faultDot" "I") (List.mem_of_getElem? (i := 3) rfl)) dX12_looks_12 (fun H locs hP hS => ?_)
  obtain ⟨m3, em3⟩ : ∃ z : dM, z = d1 m2 p0 23 (-1) := ⟨_, rfl⟩
  have h := d_let em3 h
  rw [← em3] at hP
  refine lv_aload_n S.1 S.2.1 dX12_looks_15 rfl (lv_at hl 0 rfl) ?_
  refine lv_iconst (v := (-1)) S.1 S.2.1 dX12_looks_16 (by decide) ?_
  refine dpf12_24 S in12 hE hP hS k0 (S.2.2.2.2 (.fieldLink RX12 183 "DrillFieldModel" "faultOther" "I") (List.mem_of_getElem? (i := 4) rfl)) dX12_looks_17 (fun H locs hP hS => ?_)
  obtain ⟨m4, em4⟩ : ∃ z : dM, z = d1 m3 p0 24 (-1) := ⟨_, rfl⟩
  have h := d_let em4 h
  rw [← em4] at hP
  refine lv_iconst (v := 1) S.1 S.2.1 dX12_looks_20 (by decide) ?_
  refine lv_istore_n (lv' := [(2, .int 1), (0, .ref (dad g p0)), (1, .int p1)]) S.1 S.2.1 dX12_looks_21 rfl hl (by decide) rfl (fun ls hl => ?_)
  obtain ⟨qL5, hqL5, h⟩ := d_b h
  refine d_lp (Hd := fun q => match q with | (v6, m7) => ∀ (H : Heap) (locs : List Loc) (ls : Array Slot), va_P g.1 vwCl (dws g m7) H → va_S (dA g) s.heap H locs → lv_has ls 4 [(2, .int v6), (0, .ref (dad g p0)), (1, .int p1)] → W p l e (headSpec wsX12_looks (dRm 6 150)).room s mth (([.ref (dad g p0), .int p1] : List Value).toArray) below meth c H locs 0 0 (MQ below (dQV g m0) (([.ref (dad g p0), .int p1] : List Value).toArray) s 0 0 (dA g)) (F0 mth 22 ls [])) (K := fun q => (fun (m80 : _) => ∀ (H : Heap) (locs : List Loc) (ls : Array Slot), va_P g.1 vwCl (dws g m80) H → va_S (dA g) s.heap H locs → lv_has ls 4 [] → W p l e (headSpec wsX12_looks (dRm 6 150)).room s mth (([.ref (dad g p0), .int p1] : List Value).toArray) below meth c H locs 0 0 (MQ below (dQV g m0) (([.ref (dad g p0), .int p1] : List Value).toArray) s 0 0 (dA g)) (F0 mth 124 ls [])) q) ?_ dFl _ qL5 hqL5 ?_ H locs ls hP hS (lv_sub hl [0, 1, 2] rfl)
  · intro q o h hCL5 hEL5
    obtain ⟨v6, m7⟩ := q
    have h : fX12_looks_l22 p0 p1 v6 m7 = some o := h
    intro H locs ls hP hS hl
    have hP : va_P g.1 vwCl (dws g m7) H := hP
    have hl : lv_has ls 4 [(2, .int v6), (0, .ref (dad g p0)), (1, .int p1)] := hl
    unfold fX12_looks_l22 at h
    refine lv_iload_n S.1 S.2.1 dX12_looks_22 rfl (lv_at hl 0 rfl) ?_
    refine lv_aload_n S.1 S.2.1 dX12_looks_23 rfl (lv_at hl 1 rfl) ?_
    refine dgf12_10 S in12 hE hP k0 (S.2.2.2.2 (.fieldLink RX12 36 "DrillFieldModel" "counts" "[I") (List.mem_of_getElem? (i := 5) rfl)) dX12_looks_24 ?_
    refine lv_iload_n S.1 S.2.1 dX12_looks_27 rfl (lv_at hl 2 rfl) ?_
    obtain ⟨hi, h⟩ := d_g h
    refine d_iald S hE hP dk_452 hi dX12_looks_28 ?_
    refine lv_icmp_gt (tgt := 124) S.1 S.2.1 dX12_looks_29 (by decide) (fun cq => ?_) (fun cq => ?_)
    · have h := d_t cq h
      obtain rfl := Option.some.inj h
      exact hEL5 _ rfl H locs ls hP hS (lv_sub hl [] rfl)
    · have h := d_f cq h
      refine lv_aload_n S.1 S.2.1 dX12_looks_32 rfl (lv_at hl 1 rfl) ?_
      refine dgf12_21 S in12 hE hP k0 (S.2.2.2.2 (.fieldLink RX12 174 "DrillFieldModel" "faultCount" "I") (List.mem_of_getElem? (i := 1) rfl)) dX12_looks_33 ?_
      refine lv_iconst (v := (-1)) S.1 S.2.1 dX12_looks_36 (by decide) ?_
      refine lv_icmp_ne (tgt := 124) S.1 S.2.1 dX12_looks_37 (by decide) (fun cq => ?_) (fun cq => ?_)
      · have h := d_f cq h
        obtain rfl := Option.some.inj h
        exact hEL5 _ rfl H locs ls hP hS (lv_sub hl [] rfl)
      · have h := d_t cq h
        refine lv_aload_n S.1 S.2.1 dX12_looks_40 rfl (lv_at hl 1 rfl) ?_
        refine dgf12_0 S in12 hE hP k0 (S.2.2.2.2 (.fieldLink RX12 7 "DrillFieldModel" "dots" "I") (List.mem_of_getElem? (i := 6) rfl)) dX12_looks_41 ?_
        refine lv_iconst (v := 1) S.1 S.2.1 dX12_looks_44 (by decide) ?_
        refine lv_isub S.1 S.2.1 dX12_looks_45 ?_
        refine lv_topi (fun v44 ev44 => ?_)
        have h := d_let ev44 h
        refine lv_istore_n (lv' := [(3, .int v44), (2, .int v6), (0, .ref (dad g p0)), (1, .int p1)]) S.1 S.2.1 dX12_looks_46 rfl hl (by decide) rfl (fun ls hl => ?_)
        obtain ⟨qL45, hqL45, h⟩ := d_b h
        refine d_lp (Hd := fun q => match q with | (v46, m47) => ∀ (H : Heap) (locs : List Loc) (ls : Array Slot), va_P g.1 vwCl (dws g m47) H → va_S (dA g) s.heap H locs → lv_has ls 4 [(3, .int v46), (2, .int v6), (0, .ref (dad g p0)), (1, .int p1)] → W p l e (headSpec wsX12_looks (dRm 6 150)).room s mth (([.ref (dad g p0), .int p1] : List Value).toArray) below meth c H locs 0 0 (MQ below (dQV g m0) (([.ref (dad g p0), .int p1] : List Value).toArray) s 0 0 (dA g)) (F0 mth 47 ls [])) (K := fun q => (fun (m68 : _) => ∀ (H : Heap) (locs : List Loc) (ls : Array Slot), va_P g.1 vwCl (dws g m68) H → va_S (dA g) s.heap H locs → lv_has ls 4 [(0, .ref (dad g p0)), (1, .int p1), (2, .int v6)] → W p l e (headSpec wsX12_looks (dRm 6 150)).room s mth (([.ref (dad g p0), .int p1] : List Value).toArray) below meth c H locs 0 0 (MQ below (dQV g m0) (([.ref (dad g p0), .int p1] : List Value).toArray) s 0 0 (dA g)) (F0 mth 90 ls [])) q) ?_ dFl _ qL45 hqL45 ?_ H locs ls hP hS (lv_sub hl [0, 1, 2, 3] rfl)
        · intro q o h hCL45 hEL45
          obtain ⟨v46, m47⟩ := q
          have h : fX12_looks_l47 p0 p1 v6 v46 m47 = some o := h
          intro H locs ls hP hS hl
          have hP : va_P g.1 vwCl (dws g m47) H := hP
          have hl : lv_has ls 4 [(3, .int v46), (2, .int v6), (0, .ref (dad g p0)), (1, .int p1)] := hl
          unfold fX12_looks_l47 at h
          refine lv_iload_n S.1 S.2.1 dX12_looks_47 rfl (lv_at hl 0 rfl) ?_
          refine lv_if_lt (tgt := 90) S.1 S.2.1 dX12_looks_48 (by decide) (fun cq => ?_) (fun cq => ?_)
          · have h := d_t cq h
            obtain rfl := Option.some.inj h
            exact hEL45 _ rfl H locs ls hP hS (lv_sub hl [2, 3, 1] rfl)
          · have h := d_f cq h
            refine lv_aload_n S.1 S.2.1 dX12_looks_51 rfl (lv_at hl 2 rfl) ?_
            refine lv_iload_n S.1 S.2.1 dX12_looks_52 rfl (lv_at hl 0 rfl) ?_
            obtain ⟨v59, hc58, h⟩ := d_b h
            refine dri (va_runV (As := [.int v46]) (rest := []) S (kX12_marches l g hc58) (cwV 1 S.2.2.2.2 gX12_looks_X12_marches rfl rfl rfl ynX12_marches ⟨Nat.le_of_ble_eq_true rfl, Nat.le_of_ble_eq_true rfl⟩) (dpV hE hP hS (ci := 12) rfl (dat13 k0)) rfl rfl hl.1 rfl (lv_room (Nat.le_of_ble_eq_true rfl)) dX12_looks_53 ⟨Nat.le_of_ble_eq_true rfl, Nat.le_of_ble_eq_true rfl⟩) hS (fun H locs hP hS => ?_)
            refine lv_if_eq (tgt := 84) S.1 S.2.1 dX12_looks_56 (by decide) (fun cq => ?_) (fun cq => ?_)
            · have h := d_t cq h
              obtain ⟨v60, ev60⟩ : ∃ z : Int32, z = v46 + (-1) := ⟨_, rfl⟩
              have h := d_let ev60 h
              refine lv_iinc (v := v60) (lv' := [(3, .int v60), (2, .int v6), (0, .ref (dad g p0)), (1, .int p1)]) S.1 S.2.1 dX12_looks_84 hl (k := 0) rfl (by rw [ev60]; rfl) (by decide) rfl (fun ls hl => ?_)
              refine lv_goto (tgt := 47) S.1 S.2.1 dX12_looks_87 (by decide) ?_
              obtain rfl := Option.some.inj h
              exact hCL45 _ rfl H locs ls hP hS (lv_sub hl [0, 1, 2, 3] rfl)
            · have h := d_f cq h
              refine lv_aload_n S.1 S.2.1 dX12_looks_59 rfl (lv_at hl 2 rfl) ?_
              refine lv_iload_n S.1 S.2.1 dX12_looks_60 rfl (lv_at hl 3 rfl) ?_
              refine lv_iload_n S.1 S.2.1 dX12_looks_61 rfl (lv_at hl 1 rfl) ?_
              refine lv_iload_n S.1 S.2.1 dX12_looks_62 rfl (lv_at hl 0 rfl) ?_
              obtain ⟨v62, hc61, h⟩ := d_b h
              refine dri (va_runV (As := [.int p1, .int v6, .int v46]) (rest := []) S (kX12_isTooLong l g hc61) (cwV 3 S.2.2.2.2 gX12_looks_X12_isTooLong rfl rfl rfl ynX12_isTooLong ⟨Nat.le_of_ble_eq_true rfl, Nat.le_of_ble_eq_true rfl⟩) (dpV hE hP hS (ci := 12) rfl (dat13 k0)) rfl rfl hl.1 rfl (lv_room (Nat.le_of_ble_eq_true rfl)) dX12_looks_63 ⟨Nat.le_of_ble_eq_true rfl, Nat.le_of_ble_eq_true rfl⟩) hS (fun H locs hP hS => ?_)
              refine lv_if_eq (tgt := 84) S.1 S.2.1 dX12_looks_66 (by decide) (fun cq => ?_) (fun cq => ?_)
              · have h := d_t cq h
                obtain ⟨v63, ev63⟩ : ∃ z : Int32, z = v46 + (-1) := ⟨_, rfl⟩
                have h := d_let ev63 h
                refine lv_iinc (v := v63) (lv' := [(3, .int v63), (2, .int v6), (0, .ref (dad g p0)), (1, .int p1)]) S.1 S.2.1 dX12_looks_84 hl (k := 0) rfl (by rw [ev63]; rfl) (by decide) rfl (fun ls hl => ?_)
                refine lv_goto (tgt := 47) S.1 S.2.1 dX12_looks_87 (by decide) ?_
                obtain rfl := Option.some.inj h
                exact hCL45 _ rfl H locs ls hP hS (lv_sub hl [0, 1, 2, 3] rfl)
              · have h := d_f cq h
                refine lv_aload_n S.1 S.2.1 dX12_looks_69 rfl (lv_at hl 2 rfl) ?_
                refine lv_iload_n S.1 S.2.1 dX12_looks_70 rfl (lv_at hl 1 rfl) ?_
                refine dpf12_21 S in12 hE hP hS k0 (S.2.2.2.2 (.fieldLink RX12 174 "DrillFieldModel" "faultCount" "I") (List.mem_of_getElem? (i := 1) rfl)) dX12_looks_71 (fun H locs hP hS => ?_)
                obtain ⟨m64, em64⟩ : ∃ z : dM, z = d1 m47 p0 21 v6 := ⟨_, rfl⟩
                have h := d_let em64 h
                rw [← em64] at hP
                refine lv_aload_n S.1 S.2.1 dX12_looks_74 rfl (lv_at hl 2 rfl) ?_
                refine lv_iconst (v := 0) S.1 S.2.1 dX12_looks_75 (by decide) ?_
                refine dpf12_22 S in12 hE hP hS k0 (S.2.2.2.2 (.fieldLink RX12 177 "DrillFieldModel" "faultKind" "I") (List.mem_of_getElem? (i := 2) rfl)) dX12_looks_76 (fun H locs hP hS => ?_)
                obtain ⟨m65, em65⟩ : ∃ z : dM, z = d1 m64 p0 22 0 := ⟨_, rfl⟩
                have h := d_let em65 h
                rw [← em65] at hP
                refine lv_aload_n S.1 S.2.1 dX12_looks_79 rfl (lv_at hl 2 rfl) ?_
                refine lv_iload_n S.1 S.2.1 dX12_looks_80 rfl (lv_at hl 0 rfl) ?_
                refine dpf12_23 S in12 hE hP hS k0 (S.2.2.2.2 (.fieldLink RX12 180 "DrillFieldModel" "faultDot" "I") (List.mem_of_getElem? (i := 3) rfl)) dX12_looks_81 (fun H locs hP hS => ?_)
                obtain ⟨m66, em66⟩ : ∃ z : dM, z = d1 m65 p0 23 v46 := ⟨_, rfl⟩
                have h := d_let em66 h
                rw [← em66] at hP
                obtain ⟨v67, ev67⟩ : ∃ z : Int32, z = v46 + (-1) := ⟨_, rfl⟩
                have h := d_let ev67 h
                refine lv_iinc (v := v67) (lv' := [(3, .int v67), (2, .int v6), (0, .ref (dad g p0)), (1, .int p1)]) S.1 S.2.1 dX12_looks_84 hl (k := 0) rfl (by rw [ev67]; rfl) (by decide) rfl (fun ls hl => ?_)
                refine lv_goto (tgt := 47) S.1 S.2.1 dX12_looks_87 (by decide) ?_
                obtain rfl := Option.some.inj h
                exact hCL45 _ rfl H locs ls hP hS (lv_sub hl [0, 1, 2, 3] rfl)
        · obtain ⟨m68, rfl⟩ : ∃ z, z = qL45 := ⟨_, rfl⟩
          have h := d_p1 h
          intro H locs ls hP hS hl
          have hP : va_P g.1 vwCl (dws g m68) H := hP
          have hl : lv_has ls 4 [(0, .ref (dad g p0)), (1, .int p1), (2, .int v6)] := hl
          refine lv_iconst (v := 1) S.1 S.2.1 dX12_looks_90 (by decide) ?_
          refine lv_istore_n (lv' := [(3, .int 1), (0, .ref (dad g p0)), (1, .int p1), (2, .int v6)]) S.1 S.2.1 dX12_looks_91 rfl hl (by decide) rfl (fun ls hl => ?_)
          obtain ⟨qL69, hqL69, h⟩ := d_b h
          refine d_lp (Hd := fun q => match q with | (v70, m71) => ∀ (H : Heap) (locs : List Loc) (ls : Array Slot), va_P g.1 vwCl (dws g m71) H → va_S (dA g) s.heap H locs → lv_has ls 4 [(3, .int v70), (0, .ref (dad g p0)), (1, .int p1), (2, .int v6)] → W p l e (headSpec wsX12_looks (dRm 6 150)).room s mth (([.ref (dad g p0), .int p1] : List Value).toArray) below meth c H locs 0 0 (MQ below (dQV g m0) (([.ref (dad g p0), .int p1] : List Value).toArray) s 0 0 (dA g)) (F0 mth 92 ls [])) (K := fun q => (fun (m78 : _) => ∀ (H : Heap) (locs : List Loc) (ls : Array Slot), va_P g.1 vwCl (dws g m78) H → va_S (dA g) s.heap H locs → lv_has ls 4 [(0, .ref (dad g p0)), (1, .int p1), (2, .int v6)] → W p l e (headSpec wsX12_looks (dRm 6 150)).room s mth (([.ref (dad g p0), .int p1] : List Value).toArray) below meth c H locs 0 0 (MQ below (dQV g m0) (([.ref (dad g p0), .int p1] : List Value).toArray) s 0 0 (dA g)) (F0 mth 118 ls [])) q) ?_ dFl _ qL69 hqL69 ?_ H locs ls hP hS (lv_sub hl [0, 1, 2, 3] rfl)
          · intro q o h hCL69 hEL69
            obtain ⟨v70, m71⟩ := q
            have h : fX12_looks_l92 p0 p1 v6 v70 m71 = some o := h
            intro H locs ls hP hS hl
            have hP : va_P g.1 vwCl (dws g m71) H := hP
            have hl : lv_has ls 4 [(3, .int v70), (0, .ref (dad g p0)), (1, .int p1), (2, .int v6)] := hl
            unfold fX12_looks_l92 at h
            refine lv_iload_n S.1 S.2.1 dX12_looks_92 rfl (lv_at hl 0 rfl) ?_
            refine lv_iconst (v := 2) S.1 S.2.1 dX12_looks_93 (by decide) ?_
            refine lv_icmp_gt (tgt := 118) S.1 S.2.1 dX12_looks_94 (by decide) (fun cq => ?_) (fun cq => ?_)
            · have h := d_t cq h
              obtain rfl := Option.some.inj h
              exact hEL69 _ rfl H locs ls hP hS (lv_sub hl [1, 2, 3] rfl)
            · have h := d_f cq h
              refine lv_aload_n S.1 S.2.1 dX12_looks_97 rfl (lv_at hl 1 rfl) ?_
              refine dgf12_21 S in12 hE hP k0 (S.2.2.2.2 (.fieldLink RX12 174 "DrillFieldModel" "faultCount" "I") (List.mem_of_getElem? (i := 1) rfl)) dX12_looks_98 ?_
              refine lv_iconst (v := (-1)) S.1 S.2.1 dX12_looks_101 (by decide) ?_
              refine lv_icmp_ne (tgt := 118) S.1 S.2.1 dX12_looks_102 (by decide) (fun cq => ?_) (fun cq => ?_)
              · have h := d_f cq h
                obtain rfl := Option.some.inj h
                exact hEL69 _ rfl H locs ls hP hS (lv_sub hl [1, 2, 3] rfl)
              · have h := d_t cq h
                refine lv_aload_n S.1 S.2.1 dX12_looks_105 rfl (lv_at hl 1 rfl) ?_
                refine lv_iload_n S.1 S.2.1 dX12_looks_106 rfl (lv_at hl 2 rfl) ?_
                refine lv_iload_n S.1 S.2.1 dX12_looks_107 rfl (lv_at hl 3 rfl) ?_
                refine lv_iload_n S.1 S.2.1 dX12_looks_108 rfl (lv_at hl 0 rfl) ?_
                obtain ⟨m76, hc75, h⟩ := d_b h
                refine drv (va_runV (As := [.int p1, .int v6, .int v70]) (rest := []) S (kX12_looksAtPairs l g hc75) (cwV 3 S.2.2.2.2 gX12_looks_X12_looksAtPairs rfl rfl rfl ynX12_looksAtPairs ⟨Nat.le_of_ble_eq_true rfl, Nat.le_of_ble_eq_true rfl⟩) (dpV hE hP hS (ci := 12) rfl (dat13 k0)) rfl rfl hl.1 rfl (lv_room (Nat.le_of_ble_eq_true rfl)) dX12_looks_109 ⟨Nat.le_of_ble_eq_true rfl, Nat.le_of_ble_eq_true rfl⟩) hS (fun H locs hP hS => ?_)
                obtain ⟨v77, ev77⟩ : ∃ z : Int32, z = v70 + 1 := ⟨_, rfl⟩
                have h := d_let ev77 h
                refine lv_iinc (v := v77) (lv' := [(3, .int v77), (0, .ref (dad g p0)), (1, .int p1), (2, .int v6)]) S.1 S.2.1 dX12_looks_112 hl (k := 0) rfl (by rw [ev77]; rfl) (by decide) rfl (fun ls hl => ?_)
                refine lv_goto (tgt := 92) S.1 S.2.1 dX12_looks_115 (by decide) ?_
                obtain rfl := Option.some.inj h
                exact hCL69 _ rfl H locs ls hP hS (lv_sub hl [0, 1, 2, 3] rfl)
          · obtain ⟨m78, rfl⟩ : ∃ z, z = qL69 := ⟨_, rfl⟩
            have h := d_p1 h
            intro H locs ls hP hS hl
            have hP : va_P g.1 vwCl (dws g m78) H := hP
            have hl : lv_has ls 4 [(0, .ref (dad g p0)), (1, .int p1), (2, .int v6)] := hl
            obtain ⟨v79, ev79⟩ : ∃ z : Int32, z = v6 + 1 := ⟨_, rfl⟩
            have h := d_let ev79 h
            refine lv_iinc (v := v79) (lv' := [(2, .int v79), (0, .ref (dad g p0)), (1, .int p1)]) S.1 S.2.1 dX12_looks_118 hl (k := 2) rfl (by rw [ev79]; rfl) (by decide) rfl (fun ls hl => ?_)
            refine lv_goto (tgt := 22) S.1 S.2.1 dX12_looks_121 (by decide) ?_
            obtain rfl := Option.some.inj h
            exact hCL5 _ rfl H locs ls hP hS (lv_sub hl [0, 1, 2] rfl)
  · obtain ⟨m80, rfl⟩ : ∃ z, z = qL5 := ⟨_, rfl⟩
    have h := d_p1 h
    intro H locs ls hP hS hl
    have hP : va_P g.1 vwCl (dws g m80) H := hP
    have hl : lv_has ls 4 [] := hl
    obtain rfl := Option.some.inj h
    exact dtv S hr hlk hE hP hS dX12_looks_124
set_option maxRecDepth 20000 in
theorem ggX12_fault_X12_isPart : GoodIn wsX12_fault wsX12_isPart := goodIn_r _ [10, 11, 12, 13, 9, 14, 85, 86, 87, 88, 89, 90, 91, 92, 93, 94, 95, 96, 97, 98, 99, 100, 101, 102, 103, 104, 105, 106, 107, 108, 109, 110, 111, 112] (by decide +kernel) (by decide +kernel)
set_option maxRecDepth 20000 in
theorem gX12_fault_X12_isPart : GoodIn wsX12_fault (wsV RX12 152 RX12 yX12_isPart wsX12_isPart) := goodIn_app (goodIn_of _ (by decide +kernel)) ggX12_fault_X12_isPart
set_option maxRecDepth 20000 in
theorem ggX12_fault_X12_isIn : GoodIn wsX12_fault wsX12_isIn := goodIn_r _ [14] (by decide +kernel) (by decide +kernel)
set_option maxRecDepth 20000 in
theorem gX12_fault_X12_isIn : GoodIn wsX12_fault (va_wsS RX12 79 yX12_isIn wsX12_isIn) := goodIn_app (goodIn_of _ (by decide +kernel)) ggX12_fault_X12_isIn
set_option maxRecDepth 20000 in
theorem ggX12_fault_X12_looks : GoodIn wsX12_fault wsX12_looks := goodIn_r _ [18, 2, 3, 4, 5, 19, 20, 21, 22, 23, 9, 24, 25, 26, 27, 28, 29, 30, 31, 32, 33, 34, 35, 36, 37, 38, 39, 40, 41, 42, 43, 44, 45, 46, 47, 48, 49, 50, 51, 52, 53, 54, 55, 56, 57, 58, 59, 60, 61, 62, 63, 64, 65, 66, 67, 68, 69, 70, 71, 72, 73, 74, 75, 76, 77, 78, 79, 80, 81, 82, 83, 84, 85, 86, 87, 88, 89, 90, 91, 92, 93, 94, 95, 96, 97, 98, 99, 100, 101, 102, 103, 104, 105, 106, 107, 108, 109, 110, 111, 112] (by decide +kernel) (by decide +kernel)
set_option maxRecDepth 20000 in
theorem gX12_fault_X12_looks : GoodIn wsX12_fault (wsV RX12 197 RX12 yX12_looks wsX12_looks) := goodIn_app (goodIn_of _ (by decide +kernel)) ggX12_fault_X12_looks
theorem dX12_fault_0 : decode cX12_fault 0 = .ok (.aload_n 0, 1) := by decide +kernel
theorem dX12_fault_1 : decode cX12_fault 1 = .ok (.aload_n 0, 1) := by decide +kernel
theorem dX12_fault_2 : decode cX12_fault 2 = .ok (.iload_n 1, 1) := by decide +kernel
theorem dX12_fault_3 : decode cX12_fault 3 = .ok (.invokevirtual 152, 3) := by decide +kernel
theorem dX12_fault_6 : decode cX12_fault 6 = .ok (.ifCond .ne 7, 3) := by decide +kernel
theorem dX12_fault_9 : decode cX12_fault 9 = .ok (.iconst 1, 1) := by decide +kernel
theorem dX12_fault_10 : decode cX12_fault 10 = .ok (.goto 17, 3) := by decide +kernel
theorem dX12_fault_13 : decode cX12_fault 13 = .ok (.iload_n 2, 1) := by decide +kernel
theorem dX12_fault_14 : decode cX12_fault 14 = .ok (.iconst 0, 1) := by decide +kernel
theorem dX12_fault_15 : decode cX12_fault 15 = .ok (.iconst 3, 1) := by decide +kernel
theorem dX12_fault_16 : decode cX12_fault 16 = .ok (.invokestatic 79, 3) := by decide +kernel
theorem dX12_fault_19 : decode cX12_fault 19 = .ok (.ifCond .ne 7, 3) := by decide +kernel
theorem dX12_fault_22 : decode cX12_fault 22 = .ok (.iconst 2, 1) := by decide +kernel
theorem dX12_fault_23 : decode cX12_fault 23 = .ok (.goto 4, 3) := by decide +kernel
theorem dX12_fault_26 : decode cX12_fault 26 = .ok (.iconst 0, 1) := by decide +kernel
theorem dX12_fault_27 : decode cX12_fault 27 = .ok (.putfield 76, 3) := by decide +kernel
theorem dX12_fault_30 : decode cX12_fault 30 = .ok (.aload_n 0, 1) := by decide +kernel
theorem dX12_fault_31 : decode cX12_fault 31 = .ok (.getfield 76, 3) := by decide +kernel
theorem dX12_fault_34 : decode cX12_fault 34 = .ok (.ifCond .le 5, 3) := by decide +kernel
theorem dX12_fault_37 : decode cX12_fault 37 = .ok (.iconst 0, 1) := by decide +kernel
theorem dX12_fault_38 : decode cX12_fault 38 = .ok (.ireturn, 1) := by decide +kernel
theorem dX12_fault_39 : decode cX12_fault 39 = .ok (.aload_n 0, 1) := by decide +kernel
theorem dX12_fault_40 : decode cX12_fault 40 = .ok (.iload_n 1, 1) := by decide +kernel
theorem dX12_fault_41 : decode cX12_fault 41 = .ok (.invokevirtual 197, 3) := by decide +kernel
theorem dX12_fault_44 : decode cX12_fault 44 = .ok (.iload_n 2, 1) := by decide +kernel
theorem dX12_fault_45 : decode cX12_fault 45 = .ok (.ifCond .ne 10, 3) := by decide +kernel
theorem dX12_fault_48 : decode cX12_fault 48 = .ok (.aload_n 0, 1) := by decide +kernel
theorem dX12_fault_49 : decode cX12_fault 49 = .ok (.getfield 174, 3) := by decide +kernel
theorem dX12_fault_52 : decode cX12_fault 52 = .ok (.goto 31, 3) := by decide +kernel
theorem dX12_fault_55 : decode cX12_fault 55 = .ok (.iload_n 2, 1) := by decide +kernel
theorem dX12_fault_56 : decode cX12_fault 56 = .ok (.iconst 1, 1) := by decide +kernel
theorem dX12_fault_57 : decode cX12_fault 57 = .ok (.if_icmp .ne 10, 3) := by decide +kernel
theorem dX12_fault_60 : decode cX12_fault 60 = .ok (.aload_n 0, 1) := by decide +kernel
theorem dX12_fault_61 : decode cX12_fault 61 = .ok (.getfield 177, 3) := by decide +kernel
theorem dX12_fault_64 : decode cX12_fault 64 = .ok (.goto 19, 3) := by decide +kernel
theorem dX12_fault_67 : decode cX12_fault 67 = .ok (.iload_n 2, 1) := by decide +kernel
theorem dX12_fault_68 : decode cX12_fault 68 = .ok (.iconst 2, 1) := by decide +kernel
theorem dX12_fault_69 : decode cX12_fault 69 = .ok (.if_icmp .ne 10, 3) := by decide +kernel
theorem dX12_fault_72 : decode cX12_fault 72 = .ok (.aload_n 0, 1) := by decide +kernel
theorem dX12_fault_73 : decode cX12_fault 73 = .ok (.getfield 180, 3) := by decide +kernel
theorem dX12_fault_76 : decode cX12_fault 76 = .ok (.goto 7, 3) := by decide +kernel
theorem dX12_fault_79 : decode cX12_fault 79 = .ok (.aload_n 0, 1) := by decide +kernel
theorem dX12_fault_80 : decode cX12_fault 80 = .ok (.getfield 183, 3) := by decide +kernel
theorem dX12_fault_83 : decode cX12_fault 83 = .ok (.ireturn, 1) := by decide +kernel
def fX12_fault (m : dM) (p0 : Nat) (p1 : Int32) (p2 : Int32) : Option (Int32 × dM) := dg (dkg p0 13) ((fX12_isPart m p0 p1).bind (fun v2 => if v2 = 0 then dlet (d1 m p0 25 1) (fun m9 => some (0, m9)) else (fX12_isIn m p2 0 3).bind (fun v4 => if v4 = 0 then dlet (d1 m p0 25 2) (fun m8 => some (0, m8)) else dlet (d1 m p0 25 0) (fun m5 => (fX12_looks m5 p0 p1).bind (fun m7 => if p2 = 0 then some (m7.1 p0 21, m7) else if p2 = 1 then some (m7.1 p0 22, m7) else if p2 = 2 then some (m7.1 p0 23, m7) else some (m7.1 p0 24, m7))))))
set_option maxHeartbeats 4000000 in
set_option maxRecDepth 100000 in
theorem kX12_fault (l : Launch) (g : dG) {m : dM} {p0 : Nat} {p1 : Int32} {p2 : Int32} {r0 : Int32} {m0 : dM} (h : fX12_fault m p0 p1 p2 = some (r0, m0)) : dMet l g yX12_fault wsX12_fault (dRm 7 173) [.ref (dad g p0), .int p1, .int p2] m (dQI g r0 m0) := by
  refine dof (cc := cX12_fault) (maxL := 3) (ret := (some .int)) _ (plainFor_of_name (by decide)) rfl (Nat.le_of_ble_eq_true rfl) ?_
  intro p e s mth below meth c S hr hlk hE H ls hP hS hl
  have S : CallFix p mth c cX12_fault 3 s _ wsX12_fault RX12 := S
  have hl : lv_has ls 3 [(0, .ref (dad g p0)), (1, .int p1), (2, .int p2)] := hl
  obtain ⟨locs, hlocs⟩ : ∃ z : List Loc, z = [] := ⟨_, rfl⟩
  rw [← hlocs] at hS ⊢
  have in12 : ∀ w ∈ wsX120, w ∈ wsX12_fault := by decide +kernel
  unfold fX12_fault at h
  obtain ⟨k0, h⟩ := d_g h
  have k0 := d_k k0
  refine lv_aload_n S.1 S.2.1 dX12_fault_0 rfl (lv_at hl 0 rfl) ?_
  refine lv_aload_n S.1 S.2.1 dX12_fault_1 rfl (lv_at hl 0 rfl) ?_
  refine lv_iload_n S.1 S.2.1 dX12_fault_2 rfl (lv_at hl 1 rfl) ?_
  obtain ⟨v2, hc1, h⟩ := d_b h
  refine dri (va_runV (As := [.int p1]) (rest := [.ref (dad g p0)]) S (kX12_isPart l g hc1) (cwV 1 S.2.2.2.2 gX12_fault_X12_isPart rfl rfl rfl ynX12_isPart ⟨Nat.le_of_ble_eq_true rfl, Nat.le_of_ble_eq_true rfl⟩) (dpV hE hP hS (ci := 12) rfl (dat13 k0)) rfl rfl hl.1 rfl (lv_room (Nat.le_of_ble_eq_true rfl)) dX12_fault_3 ⟨Nat.le_of_ble_eq_true rfl, Nat.le_of_ble_eq_true rfl⟩) hS (fun H locs hP hS => ?_)
  refine lv_if_ne (tgt := 13) S.1 S.2.1 dX12_fault_6 (by decide) (fun cq => ?_) (fun cq => ?_)
  · have h := d_f cq h
    refine lv_iload_n S.1 S.2.1 dX12_fault_13 rfl (lv_at hl 2 rfl) ?_
    refine lv_iconst (v := 0) S.1 S.2.1 dX12_fault_14 (by decide) ?_
    refine lv_iconst (v := 3) S.1 S.2.1 dX12_fault_15 (by decide) ?_
    obtain ⟨v4, hc3, h⟩ := d_b h
    refine dri (va_runS (As := [.int p2, .int 0, .int 3]) (rest := [.ref (dad g p0)]) S (kX12_isIn l g hc3) (va_cwS 3 S.2.2.2.2 gX12_fault_X12_isIn rfl rfl rfl ynX12_isIn ⟨Nat.le_of_ble_eq_true rfl, Nat.le_of_ble_eq_true rfl⟩) (dpS hE hP hS) rfl rfl hl.1 rfl (lv_room (Nat.le_of_ble_eq_true rfl)) dX12_fault_16 ⟨Nat.le_of_ble_eq_true rfl, Nat.le_of_ble_eq_true rfl⟩) hS (fun H locs hP hS => ?_)
    refine lv_if_ne (tgt := 26) S.1 S.2.1 dX12_fault_19 (by decide) (fun cq => ?_) (fun cq => ?_)
    · have h := d_f cq h
      refine lv_iconst (v := 0) S.1 S.2.1 dX12_fault_26 (by decide) ?_
      refine dpf12_25 S in12 hE hP hS k0 (S.2.2.2.2 (.fieldLink RX12 76 "DrillFieldModel" "thrown" "I") (List.mem_of_getElem? (i := 1) rfl)) dX12_fault_27 (fun H locs hP hS => ?_)
      obtain ⟨m5, em5⟩ : ∃ z : dM, z = d1 m p0 25 0 := ⟨_, rfl⟩
      have h := d_let em5 h
      rw [← em5] at hP
      refine lv_aload_n S.1 S.2.1 dX12_fault_30 rfl (lv_at hl 0 rfl) ?_
      refine dgf12_25 S in12 hE hP k0 (S.2.2.2.2 (.fieldLink RX12 76 "DrillFieldModel" "thrown" "I") (List.mem_of_getElem? (i := 1) rfl)) dX12_fault_31 ?_
      refine d_top (v := 0) (by rw [em5]; exact d1_get) ?_
      refine lv_if_le (tgt := 39) S.1 S.2.1 dX12_fault_34 (by decide) (fun cq => ?_) (fun cq => ?_)
      · refine lv_aload_n S.1 S.2.1 dX12_fault_39 rfl (lv_at hl 0 rfl) ?_
        refine lv_iload_n S.1 S.2.1 dX12_fault_40 rfl (lv_at hl 1 rfl) ?_
        obtain ⟨m7, hc6, h⟩ := d_b h
        refine drv (va_runV (As := [.int p1]) (rest := []) S (kX12_looks l g hc6) (cwV 1 S.2.2.2.2 gX12_fault_X12_looks rfl rfl rfl ynX12_looks ⟨Nat.le_of_ble_eq_true rfl, Nat.le_of_ble_eq_true rfl⟩) (dpV hE hP hS (ci := 12) rfl (dat13 k0)) rfl rfl hl.1 rfl (lv_room (Nat.le_of_ble_eq_true rfl)) dX12_fault_41 ⟨Nat.le_of_ble_eq_true rfl, Nat.le_of_ble_eq_true rfl⟩) hS (fun H locs hP hS => ?_)
        refine lv_iload_n S.1 S.2.1 dX12_fault_44 rfl (lv_at hl 2 rfl) ?_
        refine lv_if_ne (tgt := 55) S.1 S.2.1 dX12_fault_45 (by decide) (fun cq => ?_) (fun cq => ?_)
        · have h := d_f cq h
          refine lv_iload_n S.1 S.2.1 dX12_fault_55 rfl (lv_at hl 2 rfl) ?_
          refine lv_iconst (v := 1) S.1 S.2.1 dX12_fault_56 (by decide) ?_
          refine lv_icmp_ne (tgt := 67) S.1 S.2.1 dX12_fault_57 (by decide) (fun cq => ?_) (fun cq => ?_)
          · have h := d_f cq h
            refine lv_iload_n S.1 S.2.1 dX12_fault_67 rfl (lv_at hl 2 rfl) ?_
            refine lv_iconst (v := 2) S.1 S.2.1 dX12_fault_68 (by decide) ?_
            refine lv_icmp_ne (tgt := 79) S.1 S.2.1 dX12_fault_69 (by decide) (fun cq => ?_) (fun cq => ?_)
            · have h := d_f cq h
              refine lv_aload_n S.1 S.2.1 dX12_fault_79 rfl (lv_at hl 0 rfl) ?_
              refine dgf12_24 S in12 hE hP k0 (S.2.2.2.2 (.fieldLink RX12 183 "DrillFieldModel" "faultOther" "I") (List.mem_of_getElem? (i := 5) rfl)) dX12_fault_80 ?_
              obtain ⟨rfl, rfl⟩ := Prod.mk.inj (Option.some.inj h)
              exact dti S hr hlk hE hP hS rfl dX12_fault_83
            · have h := d_t cq h
              refine lv_aload_n S.1 S.2.1 dX12_fault_72 rfl (lv_at hl 0 rfl) ?_
              refine dgf12_23 S in12 hE hP k0 (S.2.2.2.2 (.fieldLink RX12 180 "DrillFieldModel" "faultDot" "I") (List.mem_of_getElem? (i := 4) rfl)) dX12_fault_73 ?_
              refine lv_goto (tgt := 83) S.1 S.2.1 dX12_fault_76 (by decide) ?_
              obtain ⟨rfl, rfl⟩ := Prod.mk.inj (Option.some.inj h)
              exact dti S hr hlk hE hP hS rfl dX12_fault_83
          · have h := d_t cq h
            refine lv_aload_n S.1 S.2.1 dX12_fault_60 rfl (lv_at hl 0 rfl) ?_
            refine dgf12_22 S in12 hE hP k0 (S.2.2.2.2 (.fieldLink RX12 177 "DrillFieldModel" "faultKind" "I") (List.mem_of_getElem? (i := 3) rfl)) dX12_fault_61 ?_
            refine lv_goto (tgt := 83) S.1 S.2.1 dX12_fault_64 (by decide) ?_
            obtain ⟨rfl, rfl⟩ := Prod.mk.inj (Option.some.inj h)
            exact dti S hr hlk hE hP hS rfl dX12_fault_83
        · have h := d_t cq h
          refine lv_aload_n S.1 S.2.1 dX12_fault_48 rfl (lv_at hl 0 rfl) ?_
          refine dgf12_21 S in12 hE hP k0 (S.2.2.2.2 (.fieldLink RX12 174 "DrillFieldModel" "faultCount" "I") (List.mem_of_getElem? (i := 2) rfl)) dX12_fault_49 ?_
          refine lv_goto (tgt := 83) S.1 S.2.1 dX12_fault_52 (by decide) ?_
          obtain ⟨rfl, rfl⟩ := Prod.mk.inj (Option.some.inj h)
          exact dti S hr hlk hE hP hS rfl dX12_fault_83
      · exact absurd (by decide) cq
    · have h := d_t cq h
      refine lv_iconst (v := 2) S.1 S.2.1 dX12_fault_22 (by decide) ?_
      refine lv_goto (tgt := 27) S.1 S.2.1 dX12_fault_23 (by decide) ?_
      refine dpf12_25 S in12 hE hP hS k0 (S.2.2.2.2 (.fieldLink RX12 76 "DrillFieldModel" "thrown" "I") (List.mem_of_getElem? (i := 1) rfl)) dX12_fault_27 (fun H locs hP hS => ?_)
      obtain ⟨m8, em8⟩ : ∃ z : dM, z = d1 m p0 25 2 := ⟨_, rfl⟩
      have h := d_let em8 h
      rw [← em8] at hP
      refine lv_aload_n S.1 S.2.1 dX12_fault_30 rfl (lv_at hl 0 rfl) ?_
      refine dgf12_25 S in12 hE hP k0 (S.2.2.2.2 (.fieldLink RX12 76 "DrillFieldModel" "thrown" "I") (List.mem_of_getElem? (i := 1) rfl)) dX12_fault_31 ?_
      refine d_top (v := 2) (by rw [em8]; exact d1_get) ?_
      refine lv_if_le (tgt := 39) S.1 S.2.1 dX12_fault_34 (by decide) (fun cq => ?_) (fun cq => ?_)
      · exact absurd cq (by decide)
      · refine lv_iconst (v := 0) S.1 S.2.1 dX12_fault_37 (by decide) ?_
        obtain ⟨rfl, rfl⟩ := Prod.mk.inj (Option.some.inj h)
        exact dti S hr hlk hE hP hS rfl dX12_fault_38
  · have h := d_t cq h
    refine lv_iconst (v := 1) S.1 S.2.1 dX12_fault_9 (by decide) ?_
    refine lv_goto (tgt := 27) S.1 S.2.1 dX12_fault_10 (by decide) ?_
    refine dpf12_25 S in12 hE hP hS k0 (S.2.2.2.2 (.fieldLink RX12 76 "DrillFieldModel" "thrown" "I") (List.mem_of_getElem? (i := 1) rfl)) dX12_fault_27 (fun H locs hP hS => ?_)
    obtain ⟨m9, em9⟩ : ∃ z : dM, z = d1 m p0 25 1 := ⟨_, rfl⟩
    have h := d_let em9 h
    rw [← em9] at hP
    refine lv_aload_n S.1 S.2.1 dX12_fault_30 rfl (lv_at hl 0 rfl) ?_
    refine dgf12_25 S in12 hE hP k0 (S.2.2.2.2 (.fieldLink RX12 76 "DrillFieldModel" "thrown" "I") (List.mem_of_getElem? (i := 1) rfl)) dX12_fault_31 ?_
    refine d_top (v := 1) (by rw [em9]; exact d1_get) ?_
    refine lv_if_le (tgt := 39) S.1 S.2.1 dX12_fault_34 (by decide) (fun cq => ?_) (fun cq => ?_)
    · exact absurd cq (by decide)
    · refine lv_iconst (v := 0) S.1 S.2.1 dX12_fault_37 (by decide) ?_
      obtain ⟨rfl, rfl⟩ := Prod.mk.inj (Option.some.inj h)
      exact dti S hr hlk hE hP hS rfl dX12_fault_38
set_option maxRecDepth 20000 in
theorem ggX12_ill_X12_isDot : GoodIn wsX12_ill wsX12_isDot := goodIn_r _ [7, 8, 9, 10, 6, 11, 18, 19, 20, 21, 22, 23, 24, 25, 26, 27, 28, 29, 30, 31, 32, 33, 34, 35, 36, 37, 38, 39, 40, 41, 42, 43, 44, 45] (by decide +kernel) (by decide +kernel)
set_option maxRecDepth 20000 in
theorem gX12_ill_X12_isDot : GoodIn wsX12_ill (wsV RX12 89 RX12 yX12_isDot wsX12_isDot) := goodIn_app (goodIn_of _ (by decide +kernel)) ggX12_ill_X12_isDot
set_option maxRecDepth 20000 in
theorem ggX12_ill_X12_marches : GoodIn wsX12_ill wsX12_marches := goodIn_r _ [15, 2, 16, 17, 18, 19, 20, 21, 22, 23, 24, 25, 26, 27, 28, 29, 30, 31, 32, 33, 34, 35, 36, 37, 38, 39, 40, 41, 42, 43, 44, 45] (by decide +kernel) (by decide +kernel)
set_option maxRecDepth 20000 in
theorem gX12_ill_X12_marches : GoodIn wsX12_ill (wsV RX12 93 RX12 yX12_marches wsX12_marches) := goodIn_app (goodIn_of _ (by decide +kernel)) ggX12_ill_X12_marches
theorem dX12_ill_0 : decode cX12_ill 0 = .ok (.aload_n 0, 1) := by decide +kernel
theorem dX12_ill_1 : decode cX12_ill 1 = .ok (.aload_n 0, 1) := by decide +kernel
theorem dX12_ill_2 : decode cX12_ill 2 = .ok (.iload_n 1, 1) := by decide +kernel
theorem dX12_ill_3 : decode cX12_ill 3 = .ok (.invokevirtual 89, 3) := by decide +kernel
theorem dX12_ill_6 : decode cX12_ill 6 = .ok (.ifCond .eq 7, 3) := by decide +kernel
theorem dX12_ill_9 : decode cX12_ill 9 = .ok (.iconst 0, 1) := by decide +kernel
theorem dX12_ill_10 : decode cX12_ill 10 = .ok (.goto 4, 3) := by decide +kernel
theorem dX12_ill_13 : decode cX12_ill 13 = .ok (.iconst 1, 1) := by decide +kernel
theorem dX12_ill_14 : decode cX12_ill 14 = .ok (.putfield 76, 3) := by decide +kernel
theorem dX12_ill_17 : decode cX12_ill 17 = .ok (.aload_n 0, 1) := by decide +kernel
theorem dX12_ill_18 : decode cX12_ill 18 = .ok (.getfield 76, 3) := by decide +kernel
theorem dX12_ill_21 : decode cX12_ill 21 = .ok (.ifCond .le 5, 3) := by decide +kernel
theorem dX12_ill_24 : decode cX12_ill 24 = .ok (.iconst 0, 1) := by decide +kernel
theorem dX12_ill_25 : decode cX12_ill 25 = .ok (.ireturn, 1) := by decide +kernel
theorem dX12_ill_26 : decode cX12_ill 26 = .ok (.aload_n 0, 1) := by decide +kernel
theorem dX12_ill_27 : decode cX12_ill 27 = .ok (.getfield 17, 3) := by decide +kernel
theorem dX12_ill_30 : decode cX12_ill 30 = .ok (.iload_n 1, 1) := by decide +kernel
theorem dX12_ill_31 : decode cX12_ill 31 = .ok (.iload_n 2, 1) := by decide +kernel
theorem dX12_ill_32 : decode cX12_ill 32 = .ok (.bastore, 1) := by decide +kernel
theorem dX12_ill_33 : decode cX12_ill 33 = .ok (.aload_n 0, 1) := by decide +kernel
theorem dX12_ill_34 : decode cX12_ill 34 = .ok (.iload_n 1, 1) := by decide +kernel
theorem dX12_ill_35 : decode cX12_ill 35 = .ok (.invokevirtual 93, 3) := by decide +kernel
theorem dX12_ill_38 : decode cX12_ill 38 = .ok (.ireturn, 1) := by decide +kernel
def fX12_ill (m : dM) (p0 : Nat) (p1 : Int32) (p2 : Int32) : Option (Int32 × dM) := dg (dkg p0 13) ((fX12_isDot m p0 p1).bind (fun v2 => if v2 = 0 then dlet (d1 m p0 25 1) (fun m3 => some (0, m3)) else dlet (d1 m p0 25 0) (fun m4 => dg (dIx p1 (dL 446)) (dg (dB p2) (dlet (d1 m4 446 (Int32.toNatClampNeg (p1)) p2) (fun m5 => (fX12_marches m5 p0 p1).bind (fun v7 => dg (dB v7) (some (v7, m5)))))))))
set_option maxHeartbeats 4000000 in
set_option maxRecDepth 100000 in
theorem kX12_ill (l : Launch) (g : dG) {m : dM} {p0 : Nat} {p1 : Int32} {p2 : Int32} {r0 : Int32} {m0 : dM} (h : fX12_ill m p0 p1 p2 = some (r0, m0)) : dMet l g yX12_ill wsX12_ill (dRm 2 43) [.ref (dad g p0), .int p1, .int p2] m (dQI g r0 m0) := by
  refine dof (cc := cX12_ill) (maxL := 3) (ret := (some .boolean)) _ (plainFor_of_name (by decide)) rfl (Nat.le_of_ble_eq_true rfl) ?_
  intro p e s mth below meth c S hr hlk hE H ls hP hS hl
  have S : CallFix p mth c cX12_ill 3 s _ wsX12_ill RX12 := S
  have hl : lv_has ls 3 [(0, .ref (dad g p0)), (1, .int p1), (2, .int p2)] := hl
  obtain ⟨locs, hlocs⟩ : ∃ z : List Loc, z = [] := ⟨_, rfl⟩
  rw [← hlocs] at hS ⊢
  have in12 : ∀ w ∈ wsX120, w ∈ wsX12_ill := by decide +kernel
  unfold fX12_ill at h
  obtain ⟨k0, h⟩ := d_g h
  have k0 := d_k k0
  refine lv_aload_n S.1 S.2.1 dX12_ill_0 rfl (lv_at hl 0 rfl) ?_
  refine lv_aload_n S.1 S.2.1 dX12_ill_1 rfl (lv_at hl 0 rfl) ?_
  refine lv_iload_n S.1 S.2.1 dX12_ill_2 rfl (lv_at hl 1 rfl) ?_
  obtain ⟨v2, hc1, h⟩ := d_b h
  refine dri (va_runV (As := [.int p1]) (rest := [.ref (dad g p0)]) S (kX12_isDot l g hc1) (cwV 1 S.2.2.2.2 gX12_ill_X12_isDot rfl rfl rfl ynX12_isDot ⟨Nat.le_of_ble_eq_true rfl, Nat.le_of_ble_eq_true rfl⟩) (dpV hE hP hS (ci := 12) rfl (dat13 k0)) rfl rfl hl.1 rfl (lv_room (Nat.le_of_ble_eq_true rfl)) dX12_ill_3 ⟨Nat.le_of_ble_eq_true rfl, Nat.le_of_ble_eq_true rfl⟩) hS (fun H locs hP hS => ?_)
  refine lv_if_eq (tgt := 13) S.1 S.2.1 dX12_ill_6 (by decide) (fun cq => ?_) (fun cq => ?_)
  · have h := d_t cq h
    refine lv_iconst (v := 1) S.1 S.2.1 dX12_ill_13 (by decide) ?_
    refine dpf12_25 S in12 hE hP hS k0 (S.2.2.2.2 (.fieldLink RX12 76 "DrillFieldModel" "thrown" "I") (List.mem_of_getElem? (i := 1) rfl)) dX12_ill_14 (fun H locs hP hS => ?_)
    obtain ⟨m3, em3⟩ : ∃ z : dM, z = d1 m p0 25 1 := ⟨_, rfl⟩
    have h := d_let em3 h
    rw [← em3] at hP
    refine lv_aload_n S.1 S.2.1 dX12_ill_17 rfl (lv_at hl 0 rfl) ?_
    refine dgf12_25 S in12 hE hP k0 (S.2.2.2.2 (.fieldLink RX12 76 "DrillFieldModel" "thrown" "I") (List.mem_of_getElem? (i := 1) rfl)) dX12_ill_18 ?_
    refine d_top (v := 1) (by rw [em3]; exact d1_get) ?_
    refine lv_if_le (tgt := 26) S.1 S.2.1 dX12_ill_21 (by decide) (fun cq => ?_) (fun cq => ?_)
    · exact absurd cq (by decide)
    · refine lv_iconst (v := 0) S.1 S.2.1 dX12_ill_24 (by decide) ?_
      obtain ⟨rfl, rfl⟩ := Prod.mk.inj (Option.some.inj h)
      exact dti S hr hlk hE hP hS rfl dX12_ill_25
  · have h := d_f cq h
    refine lv_iconst (v := 0) S.1 S.2.1 dX12_ill_9 (by decide) ?_
    refine lv_goto (tgt := 14) S.1 S.2.1 dX12_ill_10 (by decide) ?_
    refine dpf12_25 S in12 hE hP hS k0 (S.2.2.2.2 (.fieldLink RX12 76 "DrillFieldModel" "thrown" "I") (List.mem_of_getElem? (i := 1) rfl)) dX12_ill_14 (fun H locs hP hS => ?_)
    obtain ⟨m4, em4⟩ : ∃ z : dM, z = d1 m p0 25 0 := ⟨_, rfl⟩
    have h := d_let em4 h
    rw [← em4] at hP
    refine lv_aload_n S.1 S.2.1 dX12_ill_17 rfl (lv_at hl 0 rfl) ?_
    refine dgf12_25 S in12 hE hP k0 (S.2.2.2.2 (.fieldLink RX12 76 "DrillFieldModel" "thrown" "I") (List.mem_of_getElem? (i := 1) rfl)) dX12_ill_18 ?_
    refine d_top (v := 0) (by rw [em4]; exact d1_get) ?_
    refine lv_if_le (tgt := 26) S.1 S.2.1 dX12_ill_21 (by decide) (fun cq => ?_) (fun cq => ?_)
    · refine lv_aload_n S.1 S.2.1 dX12_ill_26 rfl (lv_at hl 0 rfl) ?_
      refine dgf12_2 S in12 hE hP k0 (S.2.2.2.2 (.fieldLink RX12 17 "DrillFieldModel" "ill" "[Z") (List.mem_of_getElem? (i := 2) rfl)) dX12_ill_27 ?_
      refine lv_iload_n S.1 S.2.1 dX12_ill_30 rfl (lv_at hl 1 rfl) ?_
      refine lv_iload_n S.1 S.2.1 dX12_ill_31 rfl (lv_at hl 2 rfl) ?_
      obtain ⟨hi, h⟩ := d_g h
      obtain ⟨hb, h⟩ := d_g h
      refine d_zast S hE hP hS dk_446 hi hb dX12_ill_32 (fun H locs hP hS => ?_)
      obtain ⟨m5, em5⟩ : ∃ z : dM, z = d1 m4 446 (Int32.toNatClampNeg (p1)) p2 := ⟨_, rfl⟩
      have h := d_let em5 h
      rw [← em5] at hP
      refine lv_aload_n S.1 S.2.1 dX12_ill_33 rfl (lv_at hl 0 rfl) ?_
      refine lv_iload_n S.1 S.2.1 dX12_ill_34 rfl (lv_at hl 1 rfl) ?_
      obtain ⟨v7, hc6, h⟩ := d_b h
      refine dri (va_runV (As := [.int p1]) (rest := []) S (kX12_marches l g hc6) (cwV 1 S.2.2.2.2 gX12_ill_X12_marches rfl rfl rfl ynX12_marches ⟨Nat.le_of_ble_eq_true rfl, Nat.le_of_ble_eq_true rfl⟩) (dpV hE hP hS (ci := 12) rfl (dat13 k0)) rfl rfl hl.1 rfl (lv_room (Nat.le_of_ble_eq_true rfl)) dX12_ill_35 ⟨Nat.le_of_ble_eq_true rfl, Nat.le_of_ble_eq_true rfl⟩) hS (fun H locs hP hS => ?_)
      obtain ⟨hb, h⟩ := d_g h
      obtain ⟨rfl, rfl⟩ := Prod.mk.inj (Option.some.inj h)
      exact dti S hr hlk hE hP hS (dB_nar2 hb) dX12_ill_38
    · exact absurd (by decide) cq
theorem dX12_time_0 : decode cX12_time 0 = .ok (.iconst 0, 1) := by decide +kernel
theorem dX12_time_1 : decode cX12_time 1 = .ok (.istore_n 1, 1) := by decide +kernel
theorem dX12_time_2 : decode cX12_time 2 = .ok (.iconst 0, 1) := by decide +kernel
theorem dX12_time_3 : decode cX12_time 3 = .ok (.istore_n 2, 1) := by decide +kernel
theorem dX12_time_4 : decode cX12_time 4 = .ok (.iload_n 2, 1) := by decide +kernel
theorem dX12_time_5 : decode cX12_time 5 = .ok (.aload_n 0, 1) := by decide +kernel
theorem dX12_time_6 : decode cX12_time 6 = .ok (.getfield 83, 3) := by decide +kernel
theorem dX12_time_9 : decode cX12_time 9 = .ok (.if_icmp .ge 29, 3) := by decide +kernel
theorem dX12_time_12 : decode cX12_time 12 = .ok (.iload_n 1, 1) := by decide +kernel
theorem dX12_time_13 : decode cX12_time 13 = .ok (.aload_n 0, 1) := by decide +kernel
theorem dX12_time_14 : decode cX12_time 14 = .ok (.getfield 36, 3) := by decide +kernel
theorem dX12_time_17 : decode cX12_time 17 = .ok (.iload_n 2, 1) := by decide +kernel
theorem dX12_time_18 : decode cX12_time 18 = .ok (.iaload, 1) := by decide +kernel
theorem dX12_time_19 : decode cX12_time 19 = .ok (.sipush 600, 3) := by decide +kernel
theorem dX12_time_22 : decode cX12_time 22 = .ok (.imul, 1) := by decide +kernel
theorem dX12_time_23 : decode cX12_time 23 = .ok (.aload_n 0, 1) := by decide +kernel
theorem dX12_time_24 : decode cX12_time 24 = .ok (.getfield 39, 3) := by decide +kernel
theorem dX12_time_27 : decode cX12_time 27 = .ok (.iload_n 2, 1) := by decide +kernel
theorem dX12_time_28 : decode cX12_time 28 = .ok (.iaload, 1) := by decide +kernel
theorem dX12_time_29 : decode cX12_time 29 = .ok (.idiv, 1) := by decide +kernel
theorem dX12_time_30 : decode cX12_time 30 = .ok (.iadd, 1) := by decide +kernel
theorem dX12_time_31 : decode cX12_time 31 = .ok (.istore_n 1, 1) := by decide +kernel
theorem dX12_time_32 : decode cX12_time 32 = .ok (.iinc 2 1, 3) := by decide +kernel
theorem dX12_time_35 : decode cX12_time 35 = .ok (.goto (-31), 3) := by decide +kernel
theorem dX12_time_38 : decode cX12_time 38 = .ok (.iload_n 1, 1) := by decide +kernel
theorem dX12_time_39 : decode cX12_time 39 = .ok (.ireturn, 1) := by decide +kernel
def fX12_time_l4 (m : dM) (p0 : Nat) (v2 : Int32) (v3 : Int32) : Option ((Int32 × Int32) ⊕ Int32) := if (m.1 p0 8) ≤ v2 then some (.inr v3) else dg (dIx v2 (dL 452)) (dg (dIx v2 (dL 453)) (dg (decide (¬ (m.1 453 (Int32.toNatClampNeg (v2))) = 0)) (dlet (v3 + (((m.1 452 (Int32.toNatClampNeg (v2))) * 600) / (m.1 453 (Int32.toNatClampNeg (v2)))) : Int32) (fun v6 => dlet (v2 + 1 : Int32) (fun v7 => some (.inl (v7, v6)))))))
def fX12_time (m : dM) (p0 : Nat) : Option Int32 := dg (dkg p0 13) ((dlp (fun q => dP2 q (fun v2 v3 => fX12_time_l4 m p0 v2 v3)) dFl (0, 0)).bind (fun q => dP1 q (fun v8 => some v8)))
set_option maxHeartbeats 4000000 in
set_option maxRecDepth 100000 in
theorem kX12_time (l : Launch) (g : dG) {m : dM} {p0 : Nat} {r0 : Int32} (h : fX12_time m p0 = some r0) : dMet l g yX12_time wsX12_time (dRm 0 0) [.ref (dad g p0)] m (dQI g r0 m) := by
  refine dof (cc := cX12_time) (maxL := 3) (ret := (some .int)) _ (plainFor_of_name (by decide)) rfl (Nat.le_of_ble_eq_true rfl) ?_
  intro p e s mth below meth c S hr hlk hE H ls hP hS hl
  have S : CallFix p mth c cX12_time 3 s _ wsX12_time RX12 := S
  have hl : lv_has ls 3 [(0, .ref (dad g p0))] := hl
  obtain ⟨locs, hlocs⟩ : ∃ z : List Loc, z = [] := ⟨_, rfl⟩
  rw [← hlocs] at hS ⊢
  have in12 : ∀ w ∈ wsX120, w ∈ wsX12_time := by decide +kernel
  unfold fX12_time at h
  obtain ⟨k0, h⟩ := d_g h
  have k0 := d_k k0
  refine lv_iconst (v := 0) S.1 S.2.1 dX12_time_0 (by decide) ?_
  refine lv_istore_n (lv' := [(1, .int 0), (0, .ref (dad g p0))]) S.1 S.2.1 dX12_time_1 rfl hl (by decide) rfl (fun ls hl => ?_)
  refine lv_iconst (v := 0) S.1 S.2.1 dX12_time_2 (by decide) ?_
  refine lv_istore_n (lv' := [(2, .int 0), (1, .int 0), (0, .ref (dad g p0))]) S.1 S.2.1 dX12_time_3 rfl hl (by decide) rfl (fun ls hl => ?_)
  obtain ⟨qL1, hqL1, h⟩ := d_b h
  refine d_lp (Hd := fun q => match q with | (v2, v3) => ∀ (H : Heap) (locs : List Loc) (ls : Array Slot), va_P g.1 vwCl (dws g m) H → va_S (dA g) s.heap H locs → lv_has ls 3 [(2, .int v2), (1, .int v3), (0, .ref (dad g p0))] → W p l e (headSpec wsX12_time (dRm 0 0)).room s mth (([.ref (dad g p0)] : List Value).toArray) below meth c H locs 0 0 (MQ below (dQI g r0 m) (([.ref (dad g p0)] : List Value).toArray) s 0 0 (dA g)) (F0 mth 4 ls [])) (K := fun q => (fun (v8 : _) => ∀ (H : Heap) (locs : List Loc) (ls : Array Slot), va_P g.1 vwCl (dws g m) H → va_S (dA g) s.heap H locs → lv_has ls 3 [(1, .int v8)] → W p l e (headSpec wsX12_time (dRm 0 0)).room s mth (([.ref (dad g p0)] : List Value).toArray) below meth c H locs 0 0 (MQ below (dQI g r0 m) (([.ref (dad g p0)] : List Value).toArray) s 0 0 (dA g)) (F0 mth 38 ls [])) q) ?_ dFl _ qL1 hqL1 ?_ H locs ls hP hS (lv_sub hl [0, 1, 2] rfl)
  · intro q o h hCL1 hEL1
    obtain ⟨v2, v3⟩ := q
    have h : fX12_time_l4 m p0 v2 v3 = some o := h
    intro H locs ls hP hS hl
    have hP : va_P g.1 vwCl (dws g m) H := hP
    have hl : lv_has ls 3 [(2, .int v2), (1, .int v3), (0, .ref (dad g p0))] := hl
    unfold fX12_time_l4 at h
    refine lv_iload_n S.1 S.2.1 dX12_time_4 rfl (lv_at hl 0 rfl) ?_
    refine lv_aload_n S.1 S.2.1 dX12_time_5 rfl (lv_at hl 2 rfl) ?_
    refine dgf12_8 S in12 hE hP k0 (S.2.2.2.2 (.fieldLink RX12 83 "DrillFieldModel" "parts" "I") (List.mem_of_getElem? (i := 1) rfl)) dX12_time_6 ?_
    refine lv_icmp_ge (tgt := 38) S.1 S.2.1 dX12_time_9 (by decide) (fun cq => ?_) (fun cq => ?_)
    · have h := d_t cq h
      obtain rfl := Option.some.inj h
      exact hEL1 _ rfl H locs ls hP hS (lv_sub hl [1] rfl)
    · have h := d_f cq h
      refine lv_iload_n S.1 S.2.1 dX12_time_12 rfl (lv_at hl 1 rfl) ?_
      refine lv_aload_n S.1 S.2.1 dX12_time_13 rfl (lv_at hl 2 rfl) ?_
      refine dgf12_10 S in12 hE hP k0 (S.2.2.2.2 (.fieldLink RX12 36 "DrillFieldModel" "counts" "[I") (List.mem_of_getElem? (i := 2) rfl)) dX12_time_14 ?_
      refine lv_iload_n S.1 S.2.1 dX12_time_17 rfl (lv_at hl 0 rfl) ?_
      obtain ⟨hi, h⟩ := d_g h
      refine d_iald S hE hP dk_452 hi dX12_time_18 ?_
      refine lv_sipush (v := 600) S.1 S.2.1 dX12_time_19 (by decide) ?_
      refine lv_imul S.1 S.2.1 dX12_time_22 ?_
      refine lv_aload_n S.1 S.2.1 dX12_time_23 rfl (lv_at hl 2 rfl) ?_
      refine dgf12_11 S in12 hE hP k0 (S.2.2.2.2 (.fieldLink RX12 39 "DrillFieldModel" "tempo" "[I") (List.mem_of_getElem? (i := 3) rfl)) dX12_time_24 ?_
      refine lv_iload_n S.1 S.2.1 dX12_time_27 rfl (lv_at hl 0 rfl) ?_
      obtain ⟨hi, h⟩ := d_g h
      refine d_iald S hE hP dk_453 hi dX12_time_28 ?_
      obtain ⟨hz, h⟩ := d_g h
      refine lv_idiv S.1 S.2.1 dX12_time_29 (of_decide_eq_true hz) ?_
      refine lv_iadd S.1 S.2.1 dX12_time_30 ?_
      refine lv_topi (fun v6 ev6 => ?_)
      have h := d_let ev6 h
      refine lv_istore_n (lv' := [(1, .int v6), (2, .int v2), (0, .ref (dad g p0))]) S.1 S.2.1 dX12_time_31 rfl hl (by decide) rfl (fun ls hl => ?_)
      obtain ⟨v7, ev7⟩ : ∃ z : Int32, z = v2 + 1 := ⟨_, rfl⟩
      have h := d_let ev7 h
      refine lv_iinc (v := v7) (lv' := [(2, .int v7), (1, .int v6), (0, .ref (dad g p0))]) S.1 S.2.1 dX12_time_32 hl (k := 1) rfl (by rw [ev7]; rfl) (by decide) rfl (fun ls hl => ?_)
      refine lv_goto (tgt := 4) S.1 S.2.1 dX12_time_35 (by decide) ?_
      obtain rfl := Option.some.inj h
      exact hCL1 _ rfl H locs ls hP hS (lv_sub hl [0, 1, 2] rfl)
  · obtain ⟨v8, rfl⟩ : ∃ z, z = qL1 := ⟨_, rfl⟩
    have h := d_p1 h
    intro H locs ls hP hS hl
    have hP : va_P g.1 vwCl (dws g m) H := hP
    have hl : lv_has ls 3 [(1, .int v8)] := hl
    refine lv_iload_n S.1 S.2.1 dX12_time_38 rfl (lv_at hl 0 rfl) ?_
    obtain rfl := Option.some.inj h
    exact dti S hr hlk hE hP hS rfl dX12_time_39
set_option maxRecDepth 20000 in
theorem ggX12_points_X12_time : GoodIn wsX12_points wsX12_time := goodIn_r _ [9, 10, 11, 12, 13, 14, 15, 16, 17, 18, 19, 20, 21, 22, 23, 24, 25, 26, 27, 28, 29, 30, 31, 32, 33, 34, 35, 36, 37, 38, 39, 40] (by decide +kernel) (by decide +kernel)
set_option maxRecDepth 20000 in
theorem gX12_points_X12_time : GoodIn wsX12_points (wsV RX12 217 RX12 yX12_time wsX12_time) := goodIn_app (goodIn_of _ (by decide +kernel)) ggX12_points_X12_time
theorem dX12_points_0 : decode cX12_points 0 = .ok (.aload_n 0, 1) := by decide +kernel
theorem dX12_points_1 : decode cX12_points 1 = .ok (.invokevirtual 217, 3) := by decide +kernel
theorem dX12_points_4 : decode cX12_points 4 = .ok (.istore_n 2, 1) := by decide +kernel
theorem dX12_points_5 : decode cX12_points 5 = .ok (.iload_n 2, 1) := by decide +kernel
theorem dX12_points_6 : decode cX12_points 6 = .ok (.aload_n 0, 1) := by decide +kernel
theorem dX12_points_7 : decode cX12_points 7 = .ok (.getfield 220, 3) := by decide +kernel
theorem dX12_points_10 : decode cX12_points 10 = .ok (.if_icmp .ge 12, 3) := by decide +kernel
theorem dX12_points_13 : decode cX12_points 13 = .ok (.aload_n 0, 1) := by decide +kernel
theorem dX12_points_14 : decode cX12_points 14 = .ok (.getfield 220, 3) := by decide +kernel
theorem dX12_points_17 : decode cX12_points 17 = .ok (.iload_n 2, 1) := by decide +kernel
theorem dX12_points_18 : decode cX12_points 18 = .ok (.isub, 1) := by decide +kernel
theorem dX12_points_19 : decode cX12_points 19 = .ok (.goto 21, 3) := by decide +kernel
theorem dX12_points_22 : decode cX12_points 22 = .ok (.iload_n 2, 1) := by decide +kernel
theorem dX12_points_23 : decode cX12_points 23 = .ok (.aload_n 0, 1) := by decide +kernel
theorem dX12_points_24 : decode cX12_points 24 = .ok (.getfield 58, 3) := by decide +kernel
theorem dX12_points_27 : decode cX12_points 27 = .ok (.if_icmp .le 12, 3) := by decide +kernel
theorem dX12_points_30 : decode cX12_points 30 = .ok (.iload_n 2, 1) := by decide +kernel
theorem dX12_points_31 : decode cX12_points 31 = .ok (.aload_n 0, 1) := by decide +kernel
theorem dX12_points_32 : decode cX12_points 32 = .ok (.getfield 58, 3) := by decide +kernel
theorem dX12_points_35 : decode cX12_points 35 = .ok (.isub, 1) := by decide +kernel
theorem dX12_points_36 : decode cX12_points 36 = .ok (.goto 4, 3) := by decide +kernel
theorem dX12_points_39 : decode cX12_points 39 = .ok (.iconst 0, 1) := by decide +kernel
theorem dX12_points_40 : decode cX12_points 40 = .ok (.istore_n 3, 1) := by decide +kernel
theorem dX12_points_41 : decode cX12_points 41 = .ok (.iconst 4, 1) := by decide +kernel
theorem dX12_points_42 : decode cX12_points 42 = .ok (.iload_n 1, 1) := by decide +kernel
theorem dX12_points_43 : decode cX12_points 43 = .ok (.imul, 1) := by decide +kernel
theorem dX12_points_44 : decode cX12_points 44 = .ok (.istore 4, 2) := by decide +kernel
theorem dX12_points_46 : decode cX12_points 46 = .ok (.iconst 2, 1) := by decide +kernel
theorem dX12_points_47 : decode cX12_points 47 = .ok (.aload_n 0, 1) := by decide +kernel
theorem dX12_points_48 : decode cX12_points 48 = .ok (.getfield 61, 3) := by decide +kernel
theorem dX12_points_51 : decode cX12_points 51 = .ok (.iload 4, 2) := by decide +kernel
theorem dX12_points_53 : decode cX12_points 53 = .ok (.iaload, 1) := by decide +kernel
theorem dX12_points_54 : decode cX12_points 54 = .ok (.aload_n 0, 1) := by decide +kernel
theorem dX12_points_55 : decode cX12_points 55 = .ok (.getfield 61, 3) := by decide +kernel
theorem dX12_points_58 : decode cX12_points 58 = .ok (.iload 4, 2) := by decide +kernel
theorem dX12_points_60 : decode cX12_points 60 = .ok (.iconst 1, 1) := by decide +kernel
theorem dX12_points_61 : decode cX12_points 61 = .ok (.iadd, 1) := by decide +kernel
theorem dX12_points_62 : decode cX12_points 62 = .ok (.iaload, 1) := by decide +kernel
theorem dX12_points_63 : decode cX12_points 63 = .ok (.iadd, 1) := by decide +kernel
theorem dX12_points_64 : decode cX12_points 64 = .ok (.imul, 1) := by decide +kernel
theorem dX12_points_65 : decode cX12_points 65 = .ok (.aload_n 0, 1) := by decide +kernel
theorem dX12_points_66 : decode cX12_points 66 = .ok (.getfield 61, 3) := by decide +kernel
theorem dX12_points_69 : decode cX12_points 69 = .ok (.iload 4, 2) := by decide +kernel
theorem dX12_points_71 : decode cX12_points 71 = .ok (.iconst 2, 1) := by decide +kernel
theorem dX12_points_72 : decode cX12_points 72 = .ok (.iadd, 1) := by decide +kernel
theorem dX12_points_73 : decode cX12_points 73 = .ok (.iaload, 1) := by decide +kernel
theorem dX12_points_74 : decode cX12_points 74 = .ok (.iadd, 1) := by decide +kernel
theorem dX12_points_75 : decode cX12_points 75 = .ok (.aload_n 0, 1) := by decide +kernel
theorem dX12_points_76 : decode cX12_points 76 = .ok (.getfield 61, 3) := by decide +kernel
theorem dX12_points_79 : decode cX12_points 79 = .ok (.iload 4, 2) := by decide +kernel
theorem dX12_points_81 : decode cX12_points 81 = .ok (.iconst 3, 1) := by decide +kernel
theorem dX12_points_82 : decode cX12_points 82 = .ok (.iadd, 1) := by decide +kernel
theorem dX12_points_83 : decode cX12_points 83 = .ok (.iaload, 1) := by decide +kernel
theorem dX12_points_84 : decode cX12_points 84 = .ok (.iadd, 1) := by decide +kernel
theorem dX12_points_85 : decode cX12_points 85 = .ok (.bipush 6, 2) := by decide +kernel
theorem dX12_points_87 : decode cX12_points 87 = .ok (.idiv, 1) := by decide +kernel
theorem dX12_points_88 : decode cX12_points 88 = .ok (.aload_n 0, 1) := by decide +kernel
theorem dX12_points_89 : decode cX12_points 89 = .ok (.getfield 64, 3) := by decide +kernel
theorem dX12_points_92 : decode cX12_points 92 = .ok (.iload_n 1, 1) := by decide +kernel
theorem dX12_points_93 : decode cX12_points 93 = .ok (.iaload, 1) := by decide +kernel
theorem dX12_points_94 : decode cX12_points 94 = .ok (.isub, 1) := by decide +kernel
theorem dX12_points_95 : decode cX12_points 95 = .ok (.iload_n 1, 1) := by decide +kernel
theorem dX12_points_96 : decode cX12_points 96 = .ok (.ifCond .ne 13, 3) := by decide +kernel
theorem dX12_points_99 : decode cX12_points 99 = .ok (.iload_n 3, 1) := by decide +kernel
theorem dX12_points_100 : decode cX12_points 100 = .ok (.bipush 29, 2) := by decide +kernel
theorem dX12_points_102 : decode cX12_points 102 = .ok (.iadd, 1) := by decide +kernel
theorem dX12_points_103 : decode cX12_points 103 = .ok (.bipush 30, 2) := by decide +kernel
theorem dX12_points_105 : decode cX12_points 105 = .ok (.idiv, 1) := by decide +kernel
theorem dX12_points_106 : decode cX12_points 106 = .ok (.goto 4, 3) := by decide +kernel
theorem dX12_points_109 : decode cX12_points 109 = .ok (.iconst 0, 1) := by decide +kernel
theorem dX12_points_110 : decode cX12_points 110 = .ok (.isub, 1) := by decide +kernel
theorem dX12_points_111 : decode cX12_points 111 = .ok (.istore 5, 2) := by decide +kernel
theorem dX12_points_113 : decode cX12_points 113 = .ok (.iload 5, 2) := by decide +kernel
theorem dX12_points_115 : decode cX12_points 115 = .ok (.ifCond .ge 7, 3) := by decide +kernel
theorem dX12_points_118 : decode cX12_points 118 = .ok (.iconst 0, 1) := by decide +kernel
theorem dX12_points_119 : decode cX12_points 119 = .ok (.goto 5, 3) := by decide +kernel
theorem dX12_points_122 : decode cX12_points 122 = .ok (.iload 5, 2) := by decide +kernel
theorem dX12_points_124 : decode cX12_points 124 = .ok (.ireturn, 1) := by decide +kernel
def fX12_points (m : dM) (p0 : Nat) (p1 : Int32) : Option Int32 := dg (dkg p0 13) ((fX12_time m p0).bind (fun v2 => if (m.1 p0 17) ≤ v2 then if v2 ≤ (m.1 p0 18) then dlet (4 * p1 : Int32) (fun v3 => dg (dIx v3 (dL 459)) (dg (dIx (v3 + 1) (dL 459)) (dg (dIx (v3 + 2) (dL 459)) (dg (dIx (v3 + 3) (dL 459)) (dg (dIx p1 (dL 460)) (if p1 = 0 then dlet ((((((2 * ((m.1 459 (Int32.toNatClampNeg (v3))) + (m.1 459 (Int32.toNatClampNeg (v3 + 1))))) + (m.1 459 (Int32.toNatClampNeg (v3 + 2)))) + (m.1 459 (Int32.toNatClampNeg (v3 + 3)))) / 6) - (m.1 460 (Int32.toNatClampNeg (p1)))) - ((0 + 29) / 30) : Int32) (fun v5 => if 0 ≤ v5 then some v5 else some 0) else dlet ((((((2 * ((m.1 459 (Int32.toNatClampNeg (v3))) + (m.1 459 (Int32.toNatClampNeg (v3 + 1))))) + (m.1 459 (Int32.toNatClampNeg (v3 + 2)))) + (m.1 459 (Int32.toNatClampNeg (v3 + 3)))) / 6) - (m.1 460 (Int32.toNatClampNeg (p1)))) - 0 : Int32) (fun v4 => if 0 ≤ v4 then some v4 else some 0))))))) else dlet (v2 - (m.1 p0 18) : Int32) (fun v6 => dlet (4 * p1 : Int32) (fun v7 => dg (dIx v7 (dL 459)) (dg (dIx (v7 + 1) (dL 459)) (dg (dIx (v7 + 2) (dL 459)) (dg (dIx (v7 + 3) (dL 459)) (dg (dIx p1 (dL 460)) (if p1 = 0 then dlet ((((((2 * ((m.1 459 (Int32.toNatClampNeg (v7))) + (m.1 459 (Int32.toNatClampNeg (v7 + 1))))) + (m.1 459 (Int32.toNatClampNeg (v7 + 2)))) + (m.1 459 (Int32.toNatClampNeg (v7 + 3)))) / 6) - (m.1 460 (Int32.toNatClampNeg (p1)))) - ((v6 + 29) / 30) : Int32) (fun v9 => if 0 ≤ v9 then some v9 else some 0) else dlet ((((((2 * ((m.1 459 (Int32.toNatClampNeg (v7))) + (m.1 459 (Int32.toNatClampNeg (v7 + 1))))) + (m.1 459 (Int32.toNatClampNeg (v7 + 2)))) + (m.1 459 (Int32.toNatClampNeg (v7 + 3)))) / 6) - (m.1 460 (Int32.toNatClampNeg (p1)))) - 0 : Int32) (fun v8 => if 0 ≤ v8 then some v8 else some 0)))))))) else dlet ((m.1 p0 17) - v2 : Int32) (fun v10 => dlet (4 * p1 : Int32) (fun v11 => dg (dIx v11 (dL 459)) (dg (dIx (v11 + 1) (dL 459)) (dg (dIx (v11 + 2) (dL 459)) (dg (dIx (v11 + 3) (dL 459)) (dg (dIx p1 (dL 460)) (if p1 = 0 then dlet ((((((2 * ((m.1 459 (Int32.toNatClampNeg (v11))) + (m.1 459 (Int32.toNatClampNeg (v11 + 1))))) + (m.1 459 (Int32.toNatClampNeg (v11 + 2)))) + (m.1 459 (Int32.toNatClampNeg (v11 + 3)))) / 6) - (m.1 460 (Int32.toNatClampNeg (p1)))) - ((v10 + 29) / 30) : Int32) (fun v13 => if 0 ≤ v13 then some v13 else some 0) else dlet ((((((2 * ((m.1 459 (Int32.toNatClampNeg (v11))) + (m.1 459 (Int32.toNatClampNeg (v11 + 1))))) + (m.1 459 (Int32.toNatClampNeg (v11 + 2)))) + (m.1 459 (Int32.toNatClampNeg (v11 + 3)))) / 6) - (m.1 460 (Int32.toNatClampNeg (p1)))) - 0 : Int32) (fun v12 => if 0 ≤ v12 then some v12 else some 0))))))))))
set_option maxHeartbeats 4000000 in
set_option maxRecDepth 100000 in
theorem kX12_points (l : Launch) (g : dG) {m : dM} {p0 : Nat} {p1 : Int32} {r0 : Int32} (h : fX12_points m p0 p1 = some r0) : dMet l g yX12_points wsX12_points (dRm 1 22) [.ref (dad g p0), .int p1] m (dQI g r0 m) := by
  refine dof (cc := cX12_points) (maxL := 6) (ret := (some .int)) _ (plainFor_of_name (by decide)) rfl (Nat.le_of_ble_eq_true rfl) ?_
  intro p e s mth below meth c S hr hlk hE H ls hP hS hl
  have S : CallFix p mth c cX12_points 6 s _ wsX12_points RX12 := S
  have hl : lv_has ls 6 [(0, .ref (dad g p0)), (1, .int p1)] := hl
  obtain ⟨locs, hlocs⟩ : ∃ z : List Loc, z = [] := ⟨_, rfl⟩
  rw [← hlocs] at hS ⊢
  have in12 : ∀ w ∈ wsX120, w ∈ wsX12_points := by decide +kernel
  unfold fX12_points at h
  obtain ⟨k0, h⟩ := d_g h
  have k0 := d_k k0
  refine lv_aload_n S.1 S.2.1 dX12_points_0 rfl (lv_at hl 0 rfl) ?_
  obtain ⟨v2, hc1, h⟩ := d_b h
  refine dri (va_runV (As := []) (rest := []) S (kX12_time l g hc1) (cwV 0 S.2.2.2.2 gX12_points_X12_time rfl rfl rfl ynX12_time ⟨Nat.le_of_ble_eq_true rfl, Nat.le_of_ble_eq_true rfl⟩) (dpV hE hP hS (ci := 12) rfl (dat13 k0)) rfl rfl hl.1 rfl (lv_room (Nat.le_of_ble_eq_true rfl)) dX12_points_1 ⟨Nat.le_of_ble_eq_true rfl, Nat.le_of_ble_eq_true rfl⟩) hS (fun H locs hP hS => ?_)
  refine lv_istore_n (lv' := [(2, .int v2), (0, .ref (dad g p0)), (1, .int p1)]) S.1 S.2.1 dX12_points_4 rfl hl (by decide) rfl (fun ls hl => ?_)
  refine lv_iload_n S.1 S.2.1 dX12_points_5 rfl (lv_at hl 0 rfl) ?_
  refine lv_aload_n S.1 S.2.1 dX12_points_6 rfl (lv_at hl 1 rfl) ?_
  refine dgf12_17 S in12 hE hP k0 (S.2.2.2.2 (.fieldLink RX12 220 "DrillFieldModel" "least" "I") (List.mem_of_getElem? (i := 1) rfl)) dX12_points_7 ?_
  refine lv_icmp_ge (tgt := 22) S.1 S.2.1 dX12_points_10 (by decide) (fun cq => ?_) (fun cq => ?_)
  · have h := d_t cq h
    refine lv_iload_n S.1 S.2.1 dX12_points_22 rfl (lv_at hl 0 rfl) ?_
    refine lv_aload_n S.1 S.2.1 dX12_points_23 rfl (lv_at hl 1 rfl) ?_
    refine dgf12_18 S in12 hE hP k0 (S.2.2.2.2 (.fieldLink RX12 58 "DrillFieldModel" "most" "I") (List.mem_of_getElem? (i := 2) rfl)) dX12_points_24 ?_
    refine lv_icmp_le (tgt := 39) S.1 S.2.1 dX12_points_27 (by decide) (fun cq => ?_) (fun cq => ?_)
    · have h := d_t cq h
      refine lv_iconst (v := 0) S.1 S.2.1 dX12_points_39 (by decide) ?_
      refine lv_istore_n (lv' := [(3, .int 0), (2, .int v2), (0, .ref (dad g p0)), (1, .int p1)]) S.1 S.2.1 dX12_points_40 rfl hl (by decide) rfl (fun ls hl => ?_)
      refine lv_iconst (v := 4) S.1 S.2.1 dX12_points_41 (by decide) ?_
      refine lv_iload_n S.1 S.2.1 dX12_points_42 rfl (lv_at hl 3 rfl) ?_
      refine lv_imul S.1 S.2.1 dX12_points_43 ?_
      refine lv_topi (fun v3 ev3 => ?_)
      have h := d_let ev3 h
      refine lv_istore (lv' := [(4, .int v3), (3, .int 0), (2, .int v2), (0, .ref (dad g p0)), (1, .int p1)]) S.1 S.2.1 dX12_points_44 hl (by decide) rfl (fun ls hl => ?_)
      refine lv_iconst (v := 2) S.1 S.2.1 dX12_points_46 (by decide) ?_
      refine lv_aload_n S.1 S.2.1 dX12_points_47 rfl (lv_at hl 3 rfl) ?_
      refine dgf12_19 S in12 hE hP k0 (S.2.2.2.2 (.fieldLink RX12 61 "DrillFieldModel" "captions" "[I") (List.mem_of_getElem? (i := 3) rfl)) dX12_points_48 ?_
      refine lv_iload S.1 S.2.1 dX12_points_51 (lv_at hl 0 rfl) ?_
      obtain ⟨hi, h⟩ := d_g h
      refine d_iald S hE hP dk_459 hi dX12_points_53 ?_
      refine lv_aload_n S.1 S.2.1 dX12_points_54 rfl (lv_at hl 3 rfl) ?_
      refine dgf12_19 S in12 hE hP k0 (S.2.2.2.2 (.fieldLink RX12 61 "DrillFieldModel" "captions" "[I") (List.mem_of_getElem? (i := 3) rfl)) dX12_points_55 ?_
      refine lv_iload S.1 S.2.1 dX12_points_58 (lv_at hl 0 rfl) ?_
      refine lv_iconst (v := 1) S.1 S.2.1 dX12_points_60 (by decide) ?_
      refine lv_iadd S.1 S.2.1 dX12_points_61 ?_
      obtain ⟨hi, h⟩ := d_g h
      refine d_iald S hE hP dk_459 hi dX12_points_62 ?_
      refine lv_iadd S.1 S.2.1 dX12_points_63 ?_
      refine lv_imul S.1 S.2.1 dX12_points_64 ?_
      refine lv_aload_n S.1 S.2.1 dX12_points_65 rfl (lv_at hl 3 rfl) ?_
      refine dgf12_19 S in12 hE hP k0 (S.2.2.2.2 (.fieldLink RX12 61 "DrillFieldModel" "captions" "[I") (List.mem_of_getElem? (i := 3) rfl)) dX12_points_66 ?_
      refine lv_iload S.1 S.2.1 dX12_points_69 (lv_at hl 0 rfl) ?_
      refine lv_iconst (v := 2) S.1 S.2.1 dX12_points_71 (by decide) ?_
      refine lv_iadd S.1 S.2.1 dX12_points_72 ?_
      obtain ⟨hi, h⟩ := d_g h
      refine d_iald S hE hP dk_459 hi dX12_points_73 ?_
      refine lv_iadd S.1 S.2.1 dX12_points_74 ?_
      refine lv_aload_n S.1 S.2.1 dX12_points_75 rfl (lv_at hl 3 rfl) ?_
      refine dgf12_19 S in12 hE hP k0 (S.2.2.2.2 (.fieldLink RX12 61 "DrillFieldModel" "captions" "[I") (List.mem_of_getElem? (i := 3) rfl)) dX12_points_76 ?_
      refine lv_iload S.1 S.2.1 dX12_points_79 (lv_at hl 0 rfl) ?_
      refine lv_iconst (v := 3) S.1 S.2.1 dX12_points_81 (by decide) ?_
      refine lv_iadd S.1 S.2.1 dX12_points_82 ?_
      obtain ⟨hi, h⟩ := d_g h
      refine d_iald S hE hP dk_459 hi dX12_points_83 ?_
      refine lv_iadd S.1 S.2.1 dX12_points_84 ?_
      refine lv_bipush (v := 6) S.1 S.2.1 dX12_points_85 (by decide) ?_
      refine lv_idiv S.1 S.2.1 dX12_points_87 (by decide) ?_
      refine lv_aload_n S.1 S.2.1 dX12_points_88 rfl (lv_at hl 3 rfl) ?_
      refine dgf12_20 S in12 hE hP k0 (S.2.2.2.2 (.fieldLink RX12 64 "DrillFieldModel" "penalties" "[I") (List.mem_of_getElem? (i := 4) rfl)) dX12_points_89 ?_
      refine lv_iload_n S.1 S.2.1 dX12_points_92 rfl (lv_at hl 4 rfl) ?_
      obtain ⟨hi, h⟩ := d_g h
      refine d_iald S hE hP dk_460 hi dX12_points_93 ?_
      refine lv_isub S.1 S.2.1 dX12_points_94 ?_
      refine lv_iload_n S.1 S.2.1 dX12_points_95 rfl (lv_at hl 4 rfl) ?_
      refine lv_if_ne (tgt := 109) S.1 S.2.1 dX12_points_96 (by decide) (fun cq => ?_) (fun cq => ?_)
      · have h := d_f cq h
        refine lv_iconst (v := 0) S.1 S.2.1 dX12_points_109 (by decide) ?_
        refine lv_isub S.1 S.2.1 dX12_points_110 ?_
        refine lv_topi (fun v4 ev4 => ?_)
        have h := d_let ev4 h
        refine lv_istore (lv' := [(5, .int v4), (4, .int v3), (3, .int 0), (2, .int v2), (0, .ref (dad g p0)), (1, .int p1)]) S.1 S.2.1 dX12_points_111 hl (by decide) rfl (fun ls hl => ?_)
        refine lv_iload S.1 S.2.1 dX12_points_113 (lv_at hl 0 rfl) ?_
        refine lv_if_ge (tgt := 122) S.1 S.2.1 dX12_points_115 (by decide) (fun cq => ?_) (fun cq => ?_)
        · have h := d_t cq h
          refine lv_iload S.1 S.2.1 dX12_points_122 (lv_at hl 0 rfl) ?_
          obtain rfl := Option.some.inj h
          exact dti S hr hlk hE hP hS rfl dX12_points_124
        · have h := d_f cq h
          refine lv_iconst (v := 0) S.1 S.2.1 dX12_points_118 (by decide) ?_
          refine lv_goto (tgt := 124) S.1 S.2.1 dX12_points_119 (by decide) ?_
          obtain rfl := Option.some.inj h
          exact dti S hr hlk hE hP hS rfl dX12_points_124
      · have h := d_t cq h
        refine lv_iload_n S.1 S.2.1 dX12_points_99 rfl (lv_at hl 1 rfl) ?_
        refine lv_bipush (v := 29) S.1 S.2.1 dX12_points_100 (by decide) ?_
        refine lv_iadd S.1 S.2.1 dX12_points_102 ?_
        refine lv_bipush (v := 30) S.1 S.2.1 dX12_points_103 (by decide) ?_
        refine lv_idiv S.1 S.2.1 dX12_points_105 (by decide) ?_
        refine lv_goto (tgt := 110) S.1 S.2.1 dX12_points_106 (by decide) ?_
        refine lv_isub S.1 S.2.1 dX12_points_110 ?_
        refine lv_topi (fun v5 ev5 => ?_)
        have h := d_let ev5 h
        refine lv_istore (lv' := [(5, .int v5), (4, .int v3), (3, .int 0), (2, .int v2), (0, .ref (dad g p0)), (1, .int p1)]) S.1 S.2.1 dX12_points_111 hl (by decide) rfl (fun ls hl => ?_)
        refine lv_iload S.1 S.2.1 dX12_points_113 (lv_at hl 0 rfl) ?_
        refine lv_if_ge (tgt := 122) S.1 S.2.1 dX12_points_115 (by decide) (fun cq => ?_) (fun cq => ?_)
        · have h := d_t cq h
          refine lv_iload S.1 S.2.1 dX12_points_122 (lv_at hl 0 rfl) ?_
          obtain rfl := Option.some.inj h
          exact dti S hr hlk hE hP hS rfl dX12_points_124
        · have h := d_f cq h
          refine lv_iconst (v := 0) S.1 S.2.1 dX12_points_118 (by decide) ?_
          refine lv_goto (tgt := 124) S.1 S.2.1 dX12_points_119 (by decide) ?_
          obtain rfl := Option.some.inj h
          exact dti S hr hlk hE hP hS rfl dX12_points_124
    · have h := d_f cq h
      refine lv_iload_n S.1 S.2.1 dX12_points_30 rfl (lv_at hl 0 rfl) ?_
      refine lv_aload_n S.1 S.2.1 dX12_points_31 rfl (lv_at hl 1 rfl) ?_
      refine dgf12_18 S in12 hE hP k0 (S.2.2.2.2 (.fieldLink RX12 58 "DrillFieldModel" "most" "I") (List.mem_of_getElem? (i := 2) rfl)) dX12_points_32 ?_
      refine lv_isub S.1 S.2.1 dX12_points_35 ?_
      refine lv_goto (tgt := 40) S.1 S.2.1 dX12_points_36 (by decide) ?_
      refine lv_topi (fun v6 ev6 => ?_)
      have h := d_let ev6 h
      refine lv_istore_n (lv' := [(3, .int v6), (2, .int v2), (0, .ref (dad g p0)), (1, .int p1)]) S.1 S.2.1 dX12_points_40 rfl hl (by decide) rfl (fun ls hl => ?_)
      refine lv_iconst (v := 4) S.1 S.2.1 dX12_points_41 (by decide) ?_
      refine lv_iload_n S.1 S.2.1 dX12_points_42 rfl (lv_at hl 3 rfl) ?_
      refine lv_imul S.1 S.2.1 dX12_points_43 ?_
      refine lv_topi (fun v7 ev7 => ?_)
      have h := d_let ev7 h
      refine lv_istore (lv' := [(4, .int v7), (3, .int v6), (2, .int v2), (0, .ref (dad g p0)), (1, .int p1)]) S.1 S.2.1 dX12_points_44 hl (by decide) rfl (fun ls hl => ?_)
      refine lv_iconst (v := 2) S.1 S.2.1 dX12_points_46 (by decide) ?_
      refine lv_aload_n S.1 S.2.1 dX12_points_47 rfl (lv_at hl 3 rfl) ?_
      refine dgf12_19 S in12 hE hP k0 (S.2.2.2.2 (.fieldLink RX12 61 "DrillFieldModel" "captions" "[I") (List.mem_of_getElem? (i := 3) rfl)) dX12_points_48 ?_
      refine lv_iload S.1 S.2.1 dX12_points_51 (lv_at hl 0 rfl) ?_
      obtain ⟨hi, h⟩ := d_g h
      refine d_iald S hE hP dk_459 hi dX12_points_53 ?_
      refine lv_aload_n S.1 S.2.1 dX12_points_54 rfl (lv_at hl 3 rfl) ?_
      refine dgf12_19 S in12 hE hP k0 (S.2.2.2.2 (.fieldLink RX12 61 "DrillFieldModel" "captions" "[I") (List.mem_of_getElem? (i := 3) rfl)) dX12_points_55 ?_
      refine lv_iload S.1 S.2.1 dX12_points_58 (lv_at hl 0 rfl) ?_
      refine lv_iconst (v := 1) S.1 S.2.1 dX12_points_60 (by decide) ?_
      refine lv_iadd S.1 S.2.1 dX12_points_61 ?_
      obtain ⟨hi, h⟩ := d_g h
      refine d_iald S hE hP dk_459 hi dX12_points_62 ?_
      refine lv_iadd S.1 S.2.1 dX12_points_63 ?_
      refine lv_imul S.1 S.2.1 dX12_points_64 ?_
      refine lv_aload_n S.1 S.2.1 dX12_points_65 rfl (lv_at hl 3 rfl) ?_
      refine dgf12_19 S in12 hE hP k0 (S.2.2.2.2 (.fieldLink RX12 61 "DrillFieldModel" "captions" "[I") (List.mem_of_getElem? (i := 3) rfl)) dX12_points_66 ?_
      refine lv_iload S.1 S.2.1 dX12_points_69 (lv_at hl 0 rfl) ?_
      refine lv_iconst (v := 2) S.1 S.2.1 dX12_points_71 (by decide) ?_
      refine lv_iadd S.1 S.2.1 dX12_points_72 ?_
      obtain ⟨hi, h⟩ := d_g h
      refine d_iald S hE hP dk_459 hi dX12_points_73 ?_
      refine lv_iadd S.1 S.2.1 dX12_points_74 ?_
      refine lv_aload_n S.1 S.2.1 dX12_points_75 rfl (lv_at hl 3 rfl) ?_
      refine dgf12_19 S in12 hE hP k0 (S.2.2.2.2 (.fieldLink RX12 61 "DrillFieldModel" "captions" "[I") (List.mem_of_getElem? (i := 3) rfl)) dX12_points_76 ?_
      refine lv_iload S.1 S.2.1 dX12_points_79 (lv_at hl 0 rfl) ?_
      refine lv_iconst (v := 3) S.1 S.2.1 dX12_points_81 (by decide) ?_
      refine lv_iadd S.1 S.2.1 dX12_points_82 ?_
      obtain ⟨hi, h⟩ := d_g h
      refine d_iald S hE hP dk_459 hi dX12_points_83 ?_
      refine lv_iadd S.1 S.2.1 dX12_points_84 ?_
      refine lv_bipush (v := 6) S.1 S.2.1 dX12_points_85 (by decide) ?_
      refine lv_idiv S.1 S.2.1 dX12_points_87 (by decide) ?_
      refine lv_aload_n S.1 S.2.1 dX12_points_88 rfl (lv_at hl 3 rfl) ?_
      refine dgf12_20 S in12 hE hP k0 (S.2.2.2.2 (.fieldLink RX12 64 "DrillFieldModel" "penalties" "[I") (List.mem_of_getElem? (i := 4) rfl)) dX12_points_89 ?_
      refine lv_iload_n S.1 S.2.1 dX12_points_92 rfl (lv_at hl 4 rfl) ?_
      obtain ⟨hi, h⟩ := d_g h
      refine d_iald S hE hP dk_460 hi dX12_points_93 ?_
      refine lv_isub S.1 S.2.1 dX12_points_94 ?_
      refine lv_iload_n S.1 S.2.1 dX12_points_95 rfl (lv_at hl 4 rfl) ?_
      refine lv_if_ne (tgt := 109) S.1 S.2.1 dX12_points_96 (by decide) (fun cq => ?_) (fun cq => ?_)
      · have h := d_f cq h
        refine lv_iconst (v := 0) S.1 S.2.1 dX12_points_109 (by decide) ?_
        refine lv_isub S.1 S.2.1 dX12_points_110 ?_
        refine lv_topi (fun v8 ev8 => ?_)
        have h := d_let ev8 h
        refine lv_istore (lv' := [(5, .int v8), (4, .int v7), (3, .int v6), (2, .int v2), (0, .ref (dad g p0)), (1, .int p1)]) S.1 S.2.1 dX12_points_111 hl (by decide) rfl (fun ls hl => ?_)
        refine lv_iload S.1 S.2.1 dX12_points_113 (lv_at hl 0 rfl) ?_
        refine lv_if_ge (tgt := 122) S.1 S.2.1 dX12_points_115 (by decide) (fun cq => ?_) (fun cq => ?_)
        · have h := d_t cq h
          refine lv_iload S.1 S.2.1 dX12_points_122 (lv_at hl 0 rfl) ?_
          obtain rfl := Option.some.inj h
          exact dti S hr hlk hE hP hS rfl dX12_points_124
        · have h := d_f cq h
          refine lv_iconst (v := 0) S.1 S.2.1 dX12_points_118 (by decide) ?_
          refine lv_goto (tgt := 124) S.1 S.2.1 dX12_points_119 (by decide) ?_
          obtain rfl := Option.some.inj h
          exact dti S hr hlk hE hP hS rfl dX12_points_124
      · have h := d_t cq h
        refine lv_iload_n S.1 S.2.1 dX12_points_99 rfl (lv_at hl 1 rfl) ?_
        refine lv_bipush (v := 29) S.1 S.2.1 dX12_points_100 (by decide) ?_
        refine lv_iadd S.1 S.2.1 dX12_points_102 ?_
        refine lv_bipush (v := 30) S.1 S.2.1 dX12_points_103 (by decide) ?_
        refine lv_idiv S.1 S.2.1 dX12_points_105 (by decide) ?_
        refine lv_goto (tgt := 110) S.1 S.2.1 dX12_points_106 (by decide) ?_
        refine lv_isub S.1 S.2.1 dX12_points_110 ?_
        refine lv_topi (fun v9 ev9 => ?_)
        have h := d_let ev9 h
        refine lv_istore (lv' := [(5, .int v9), (4, .int v7), (3, .int v6), (2, .int v2), (0, .ref (dad g p0)), (1, .int p1)]) S.1 S.2.1 dX12_points_111 hl (by decide) rfl (fun ls hl => ?_)
        refine lv_iload S.1 S.2.1 dX12_points_113 (lv_at hl 0 rfl) ?_
        refine lv_if_ge (tgt := 122) S.1 S.2.1 dX12_points_115 (by decide) (fun cq => ?_) (fun cq => ?_)
        · have h := d_t cq h
          refine lv_iload S.1 S.2.1 dX12_points_122 (lv_at hl 0 rfl) ?_
          obtain rfl := Option.some.inj h
          exact dti S hr hlk hE hP hS rfl dX12_points_124
        · have h := d_f cq h
          refine lv_iconst (v := 0) S.1 S.2.1 dX12_points_118 (by decide) ?_
          refine lv_goto (tgt := 124) S.1 S.2.1 dX12_points_119 (by decide) ?_
          obtain rfl := Option.some.inj h
          exact dti S hr hlk hE hP hS rfl dX12_points_124
  · have h := d_f cq h
    refine lv_aload_n S.1 S.2.1 dX12_points_13 rfl (lv_at hl 1 rfl) ?_
    refine dgf12_17 S in12 hE hP k0 (S.2.2.2.2 (.fieldLink RX12 220 "DrillFieldModel" "least" "I") (List.mem_of_getElem? (i := 1) rfl)) dX12_points_14 ?_
    refine lv_iload_n S.1 S.2.1 dX12_points_17 rfl (lv_at hl 0 rfl) ?_
    refine lv_isub S.1 S.2.1 dX12_points_18 ?_
    refine lv_goto (tgt := 40) S.1 S.2.1 dX12_points_19 (by decide) ?_
    refine lv_topi (fun v10 ev10 => ?_)
    have h := d_let ev10 h
    refine lv_istore_n (lv' := [(3, .int v10), (2, .int v2), (0, .ref (dad g p0)), (1, .int p1)]) S.1 S.2.1 dX12_points_40 rfl hl (by decide) rfl (fun ls hl => ?_)
    refine lv_iconst (v := 4) S.1 S.2.1 dX12_points_41 (by decide) ?_
    refine lv_iload_n S.1 S.2.1 dX12_points_42 rfl (lv_at hl 3 rfl) ?_
    refine lv_imul S.1 S.2.1 dX12_points_43 ?_
    refine lv_topi (fun v11 ev11 => ?_)
    have h := d_let ev11 h
    refine lv_istore (lv' := [(4, .int v11), (3, .int v10), (2, .int v2), (0, .ref (dad g p0)), (1, .int p1)]) S.1 S.2.1 dX12_points_44 hl (by decide) rfl (fun ls hl => ?_)
    refine lv_iconst (v := 2) S.1 S.2.1 dX12_points_46 (by decide) ?_
    refine lv_aload_n S.1 S.2.1 dX12_points_47 rfl (lv_at hl 3 rfl) ?_
    refine dgf12_19 S in12 hE hP k0 (S.2.2.2.2 (.fieldLink RX12 61 "DrillFieldModel" "captions" "[I") (List.mem_of_getElem? (i := 3) rfl)) dX12_points_48 ?_
    refine lv_iload S.1 S.2.1 dX12_points_51 (lv_at hl 0 rfl) ?_
    obtain ⟨hi, h⟩ := d_g h
    refine d_iald S hE hP dk_459 hi dX12_points_53 ?_
    refine lv_aload_n S.1 S.2.1 dX12_points_54 rfl (lv_at hl 3 rfl) ?_
    refine dgf12_19 S in12 hE hP k0 (S.2.2.2.2 (.fieldLink RX12 61 "DrillFieldModel" "captions" "[I") (List.mem_of_getElem? (i := 3) rfl)) dX12_points_55 ?_
    refine lv_iload S.1 S.2.1 dX12_points_58 (lv_at hl 0 rfl) ?_
    refine lv_iconst (v := 1) S.1 S.2.1 dX12_points_60 (by decide) ?_
    refine lv_iadd S.1 S.2.1 dX12_points_61 ?_
    obtain ⟨hi, h⟩ := d_g h
    refine d_iald S hE hP dk_459 hi dX12_points_62 ?_
    refine lv_iadd S.1 S.2.1 dX12_points_63 ?_
    refine lv_imul S.1 S.2.1 dX12_points_64 ?_
    refine lv_aload_n S.1 S.2.1 dX12_points_65 rfl (lv_at hl 3 rfl) ?_
    refine dgf12_19 S in12 hE hP k0 (S.2.2.2.2 (.fieldLink RX12 61 "DrillFieldModel" "captions" "[I") (List.mem_of_getElem? (i := 3) rfl)) dX12_points_66 ?_
    refine lv_iload S.1 S.2.1 dX12_points_69 (lv_at hl 0 rfl) ?_
    refine lv_iconst (v := 2) S.1 S.2.1 dX12_points_71 (by decide) ?_
    refine lv_iadd S.1 S.2.1 dX12_points_72 ?_
    obtain ⟨hi, h⟩ := d_g h
    refine d_iald S hE hP dk_459 hi dX12_points_73 ?_
    refine lv_iadd S.1 S.2.1 dX12_points_74 ?_
    refine lv_aload_n S.1 S.2.1 dX12_points_75 rfl (lv_at hl 3 rfl) ?_
    refine dgf12_19 S in12 hE hP k0 (S.2.2.2.2 (.fieldLink RX12 61 "DrillFieldModel" "captions" "[I") (List.mem_of_getElem? (i := 3) rfl)) dX12_points_76 ?_
    refine lv_iload S.1 S.2.1 dX12_points_79 (lv_at hl 0 rfl) ?_
    refine lv_iconst (v := 3) S.1 S.2.1 dX12_points_81 (by decide) ?_
    refine lv_iadd S.1 S.2.1 dX12_points_82 ?_
    obtain ⟨hi, h⟩ := d_g h
    refine d_iald S hE hP dk_459 hi dX12_points_83 ?_
    refine lv_iadd S.1 S.2.1 dX12_points_84 ?_
    refine lv_bipush (v := 6) S.1 S.2.1 dX12_points_85 (by decide) ?_
    refine lv_idiv S.1 S.2.1 dX12_points_87 (by decide) ?_
    refine lv_aload_n S.1 S.2.1 dX12_points_88 rfl (lv_at hl 3 rfl) ?_
    refine dgf12_20 S in12 hE hP k0 (S.2.2.2.2 (.fieldLink RX12 64 "DrillFieldModel" "penalties" "[I") (List.mem_of_getElem? (i := 4) rfl)) dX12_points_89 ?_
    refine lv_iload_n S.1 S.2.1 dX12_points_92 rfl (lv_at hl 4 rfl) ?_
    obtain ⟨hi, h⟩ := d_g h
    refine d_iald S hE hP dk_460 hi dX12_points_93 ?_
    refine lv_isub S.1 S.2.1 dX12_points_94 ?_
    refine lv_iload_n S.1 S.2.1 dX12_points_95 rfl (lv_at hl 4 rfl) ?_
    refine lv_if_ne (tgt := 109) S.1 S.2.1 dX12_points_96 (by decide) (fun cq => ?_) (fun cq => ?_)
    · have h := d_f cq h
      refine lv_iconst (v := 0) S.1 S.2.1 dX12_points_109 (by decide) ?_
      refine lv_isub S.1 S.2.1 dX12_points_110 ?_
      refine lv_topi (fun v12 ev12 => ?_)
      have h := d_let ev12 h
      refine lv_istore (lv' := [(5, .int v12), (4, .int v11), (3, .int v10), (2, .int v2), (0, .ref (dad g p0)), (1, .int p1)]) S.1 S.2.1 dX12_points_111 hl (by decide) rfl (fun ls hl => ?_)
      refine lv_iload S.1 S.2.1 dX12_points_113 (lv_at hl 0 rfl) ?_
      refine lv_if_ge (tgt := 122) S.1 S.2.1 dX12_points_115 (by decide) (fun cq => ?_) (fun cq => ?_)
      · have h := d_t cq h
        refine lv_iload S.1 S.2.1 dX12_points_122 (lv_at hl 0 rfl) ?_
        obtain rfl := Option.some.inj h
        exact dti S hr hlk hE hP hS rfl dX12_points_124
      · have h := d_f cq h
        refine lv_iconst (v := 0) S.1 S.2.1 dX12_points_118 (by decide) ?_
        refine lv_goto (tgt := 124) S.1 S.2.1 dX12_points_119 (by decide) ?_
        obtain rfl := Option.some.inj h
        exact dti S hr hlk hE hP hS rfl dX12_points_124
    · have h := d_t cq h
      refine lv_iload_n S.1 S.2.1 dX12_points_99 rfl (lv_at hl 1 rfl) ?_
      refine lv_bipush (v := 29) S.1 S.2.1 dX12_points_100 (by decide) ?_
      refine lv_iadd S.1 S.2.1 dX12_points_102 ?_
      refine lv_bipush (v := 30) S.1 S.2.1 dX12_points_103 (by decide) ?_
      refine lv_idiv S.1 S.2.1 dX12_points_105 (by decide) ?_
      refine lv_goto (tgt := 110) S.1 S.2.1 dX12_points_106 (by decide) ?_
      refine lv_isub S.1 S.2.1 dX12_points_110 ?_
      refine lv_topi (fun v13 ev13 => ?_)
      have h := d_let ev13 h
      refine lv_istore (lv' := [(5, .int v13), (4, .int v11), (3, .int v10), (2, .int v2), (0, .ref (dad g p0)), (1, .int p1)]) S.1 S.2.1 dX12_points_111 hl (by decide) rfl (fun ls hl => ?_)
      refine lv_iload S.1 S.2.1 dX12_points_113 (lv_at hl 0 rfl) ?_
      refine lv_if_ge (tgt := 122) S.1 S.2.1 dX12_points_115 (by decide) (fun cq => ?_) (fun cq => ?_)
      · have h := d_t cq h
        refine lv_iload S.1 S.2.1 dX12_points_122 (lv_at hl 0 rfl) ?_
        obtain rfl := Option.some.inj h
        exact dti S hr hlk hE hP hS rfl dX12_points_124
      · have h := d_f cq h
        refine lv_iconst (v := 0) S.1 S.2.1 dX12_points_118 (by decide) ?_
        refine lv_goto (tgt := 124) S.1 S.2.1 dX12_points_119 (by decide) ?_
        obtain rfl := Option.some.inj h
        exact dti S hr hlk hE hP hS rfl dX12_points_124
set_option maxRecDepth 20000 in
theorem ggX12_isAhead_X12_points : GoodIn wsX12_isAhead wsX12_points := goodIn_r _ [6, 7, 8, 1, 9, 10, 11, 12, 5, 13, 14, 15, 16, 17, 18, 19, 20, 21, 22, 23, 24, 25, 26, 27, 28, 29, 30, 31, 32, 33, 34, 35, 36, 37, 38, 39, 40, 41, 42, 43, 44] (by decide +kernel) (by decide +kernel)
set_option maxRecDepth 20000 in
theorem gX12_isAhead_X12_points : GoodIn wsX12_isAhead (wsV RX12 223 RX12 yX12_points wsX12_points) := goodIn_app (goodIn_of _ (by decide +kernel)) ggX12_isAhead_X12_points
theorem dX12_isAhead_0 : decode cX12_isAhead 0 = .ok (.aload_n 0, 1) := by decide +kernel
theorem dX12_isAhead_1 : decode cX12_isAhead 1 = .ok (.iload_n 1, 1) := by decide +kernel
theorem dX12_isAhead_2 : decode cX12_isAhead 2 = .ok (.invokevirtual 223, 3) := by decide +kernel
theorem dX12_isAhead_5 : decode cX12_isAhead 5 = .ok (.aload_n 0, 1) := by decide +kernel
theorem dX12_isAhead_6 : decode cX12_isAhead 6 = .ok (.iload_n 2, 1) := by decide +kernel
theorem dX12_isAhead_7 : decode cX12_isAhead 7 = .ok (.invokevirtual 223, 3) := by decide +kernel
theorem dX12_isAhead_10 : decode cX12_isAhead 10 = .ok (.isub, 1) := by decide +kernel
theorem dX12_isAhead_11 : decode cX12_isAhead 11 = .ok (.istore_n 3, 1) := by decide +kernel
theorem dX12_isAhead_12 : decode cX12_isAhead 12 = .ok (.iconst 0, 1) := by decide +kernel
theorem dX12_isAhead_13 : decode cX12_isAhead 13 = .ok (.istore 4, 2) := by decide +kernel
theorem dX12_isAhead_15 : decode cX12_isAhead 15 = .ok (.iload 4, 2) := by decide +kernel
theorem dX12_isAhead_17 : decode cX12_isAhead 17 = .ok (.iconst 4, 1) := by decide +kernel
theorem dX12_isAhead_18 : decode cX12_isAhead 18 = .ok (.if_icmp .ge 37, 3) := by decide +kernel
theorem dX12_isAhead_21 : decode cX12_isAhead 21 = .ok (.iload_n 3, 1) := by decide +kernel
theorem dX12_isAhead_22 : decode cX12_isAhead 22 = .ok (.ifCond .ne 33, 3) := by decide +kernel
theorem dX12_isAhead_25 : decode cX12_isAhead 25 = .ok (.aload_n 0, 1) := by decide +kernel
theorem dX12_isAhead_26 : decode cX12_isAhead 26 = .ok (.getfield 61, 3) := by decide +kernel
theorem dX12_isAhead_29 : decode cX12_isAhead 29 = .ok (.iconst 4, 1) := by decide +kernel
theorem dX12_isAhead_30 : decode cX12_isAhead 30 = .ok (.iload_n 1, 1) := by decide +kernel
theorem dX12_isAhead_31 : decode cX12_isAhead 31 = .ok (.imul, 1) := by decide +kernel
theorem dX12_isAhead_32 : decode cX12_isAhead 32 = .ok (.iload 4, 2) := by decide +kernel
theorem dX12_isAhead_34 : decode cX12_isAhead 34 = .ok (.iadd, 1) := by decide +kernel
theorem dX12_isAhead_35 : decode cX12_isAhead 35 = .ok (.iaload, 1) := by decide +kernel
theorem dX12_isAhead_36 : decode cX12_isAhead 36 = .ok (.aload_n 0, 1) := by decide +kernel
theorem dX12_isAhead_37 : decode cX12_isAhead 37 = .ok (.getfield 61, 3) := by decide +kernel
theorem dX12_isAhead_40 : decode cX12_isAhead 40 = .ok (.iconst 4, 1) := by decide +kernel
theorem dX12_isAhead_41 : decode cX12_isAhead 41 = .ok (.iload_n 2, 1) := by decide +kernel
theorem dX12_isAhead_42 : decode cX12_isAhead 42 = .ok (.imul, 1) := by decide +kernel
theorem dX12_isAhead_43 : decode cX12_isAhead 43 = .ok (.iload 4, 2) := by decide +kernel
theorem dX12_isAhead_45 : decode cX12_isAhead 45 = .ok (.iadd, 1) := by decide +kernel
theorem dX12_isAhead_46 : decode cX12_isAhead 46 = .ok (.iaload, 1) := by decide +kernel
theorem dX12_isAhead_47 : decode cX12_isAhead 47 = .ok (.isub, 1) := by decide +kernel
theorem dX12_isAhead_48 : decode cX12_isAhead 48 = .ok (.istore_n 3, 1) := by decide +kernel
theorem dX12_isAhead_49 : decode cX12_isAhead 49 = .ok (.iinc 4 1, 3) := by decide +kernel
theorem dX12_isAhead_52 : decode cX12_isAhead 52 = .ok (.goto (-37), 3) := by decide +kernel
theorem dX12_isAhead_55 : decode cX12_isAhead 55 = .ok (.iload_n 3, 1) := by decide +kernel
theorem dX12_isAhead_56 : decode cX12_isAhead 56 = .ok (.ifCond .gt 12, 3) := by decide +kernel
theorem dX12_isAhead_59 : decode cX12_isAhead 59 = .ok (.iload_n 3, 1) := by decide +kernel
theorem dX12_isAhead_60 : decode cX12_isAhead 60 = .ok (.ifCond .ne 12, 3) := by decide +kernel
theorem dX12_isAhead_63 : decode cX12_isAhead 63 = .ok (.iload_n 1, 1) := by decide +kernel
theorem dX12_isAhead_64 : decode cX12_isAhead 64 = .ok (.iload_n 2, 1) := by decide +kernel
theorem dX12_isAhead_65 : decode cX12_isAhead 65 = .ok (.if_icmp .ge 7, 3) := by decide +kernel
theorem dX12_isAhead_68 : decode cX12_isAhead 68 = .ok (.iconst 1, 1) := by decide +kernel
theorem dX12_isAhead_69 : decode cX12_isAhead 69 = .ok (.goto 4, 3) := by decide +kernel
theorem dX12_isAhead_72 : decode cX12_isAhead 72 = .ok (.iconst 0, 1) := by decide +kernel
theorem dX12_isAhead_73 : decode cX12_isAhead 73 = .ok (.ireturn, 1) := by decide +kernel
def fX12_isAhead_l15 (m : dM) (p1 : Int32) (p2 : Int32) (v7 : Int32) (v8 : Int32) : Option ((Int32 × Int32) ⊕ Int32) := if 4 ≤ v7 then some (.inr v8) else if v8 = 0 then dg (dIx ((4 * p1) + v7) (dL 459)) (dg (dIx ((4 * p2) + v7) (dL 459)) (dlet ((m.1 459 (Int32.toNatClampNeg ((4 * p1) + v7))) - (m.1 459 (Int32.toNatClampNeg ((4 * p2) + v7))) : Int32) (fun v11 => dlet (v7 + 1 : Int32) (fun v12 => some (.inl (v12, v11)))))) else some (.inr v8)
def fX12_isAhead (m : dM) (p0 : Nat) (p1 : Int32) (p2 : Int32) : Option Int32 := dg (dkg p0 13) ((fX12_points m p0 p1).bind (fun v2 => (fX12_points m p0 p2).bind (fun v4 => dlet (v2 - v4 : Int32) (fun v5 => (dlp (fun q => dP2 q (fun v7 v8 => fX12_isAhead_l15 m p1 p2 v7 v8)) dFl (0, v5)).bind (fun q => dP1 q (fun v13 => if 0 < v13 then some 1 else if v13 = 0 then if p2 ≤ p1 then some 0 else some 1 else some 0))))))
set_option maxHeartbeats 4000000 in
set_option maxRecDepth 100000 in
theorem kX12_isAhead (l : Launch) (g : dG) {m : dM} {p0 : Nat} {p1 : Int32} {p2 : Int32} {r0 : Int32} (h : fX12_isAhead m p0 p1 p2 = some r0) : dMet l g yX12_isAhead wsX12_isAhead (dRm 2 47) [.ref (dad g p0), .int p1, .int p2] m (dQI g r0 m) := by
  refine dof (cc := cX12_isAhead) (maxL := 5) (ret := (some .boolean)) _ (plainFor_of_name (by decide)) rfl (Nat.le_of_ble_eq_true rfl) ?_
  intro p e s mth below meth c S hr hlk hE H ls hP hS hl
  have S : CallFix p mth c cX12_isAhead 5 s _ wsX12_isAhead RX12 := S
  have hl : lv_has ls 5 [(0, .ref (dad g p0)), (1, .int p1), (2, .int p2)] := hl
  obtain ⟨locs, hlocs⟩ : ∃ z : List Loc, z = [] := ⟨_, rfl⟩
  rw [← hlocs] at hS ⊢
  have in12 : ∀ w ∈ wsX120, w ∈ wsX12_isAhead := by decide +kernel
  unfold fX12_isAhead at h
  obtain ⟨k0, h⟩ := d_g h
  have k0 := d_k k0
  refine lv_aload_n S.1 S.2.1 dX12_isAhead_0 rfl (lv_at hl 0 rfl) ?_
  refine lv_iload_n S.1 S.2.1 dX12_isAhead_1 rfl (lv_at hl 1 rfl) ?_
  obtain ⟨v2, hc1, h⟩ := d_b h
  refine dri (va_runV (As := [.int p1]) (rest := []) S (kX12_points l g hc1) (cwV 1 S.2.2.2.2 gX12_isAhead_X12_points rfl rfl rfl ynX12_points ⟨Nat.le_of_ble_eq_true rfl, Nat.le_of_ble_eq_true rfl⟩) (dpV hE hP hS (ci := 12) rfl (dat13 k0)) rfl rfl hl.1 rfl (lv_room (Nat.le_of_ble_eq_true rfl)) dX12_isAhead_2 ⟨Nat.le_of_ble_eq_true rfl, Nat.le_of_ble_eq_true rfl⟩) hS (fun H locs hP hS => ?_)
  refine lv_aload_n S.1 S.2.1 dX12_isAhead_5 rfl (lv_at hl 0 rfl) ?_
  refine lv_iload_n S.1 S.2.1 dX12_isAhead_6 rfl (lv_at hl 2 rfl) ?_
  obtain ⟨v4, hc3, h⟩ := d_b h
  refine dri (va_runV (As := [.int p2]) (rest := [.int v2]) S (kX12_points l g hc3) (cwV 1 S.2.2.2.2 gX12_isAhead_X12_points rfl rfl rfl ynX12_points ⟨Nat.le_of_ble_eq_true rfl, Nat.le_of_ble_eq_true rfl⟩) (dpV hE hP hS (ci := 12) rfl (dat13 k0)) rfl rfl hl.1 rfl (lv_room (Nat.le_of_ble_eq_true rfl)) dX12_isAhead_7 ⟨Nat.le_of_ble_eq_true rfl, Nat.le_of_ble_eq_true rfl⟩) hS (fun H locs hP hS => ?_)
  refine lv_isub S.1 S.2.1 dX12_isAhead_10 ?_
  refine lv_topi (fun v5 ev5 => ?_)
  have h := d_let ev5 h
  refine lv_istore_n (lv' := [(3, .int v5), (0, .ref (dad g p0)), (1, .int p1), (2, .int p2)]) S.1 S.2.1 dX12_isAhead_11 rfl hl (by decide) rfl (fun ls hl => ?_)
  refine lv_iconst (v := 0) S.1 S.2.1 dX12_isAhead_12 (by decide) ?_
  refine lv_istore (lv' := [(4, .int 0), (3, .int v5), (0, .ref (dad g p0)), (1, .int p1), (2, .int p2)]) S.1 S.2.1 dX12_isAhead_13 hl (by decide) rfl (fun ls hl => ?_)
  obtain ⟨qL6, hqL6, h⟩ := d_b h
  refine d_lp (Hd := fun q => match q with | (v7, v8) => ∀ (H : Heap) (locs : List Loc) (ls : Array Slot), va_P g.1 vwCl (dws g m) H → va_S (dA g) s.heap H locs → lv_has ls 5 [(4, .int v7), (3, .int v8), (0, .ref (dad g p0)), (1, .int p1), (2, .int p2)] → W p l e (headSpec wsX12_isAhead (dRm 2 47)).room s mth (([.ref (dad g p0), .int p1, .int p2] : List Value).toArray) below meth c H locs 0 0 (MQ below (dQI g r0 m) (([.ref (dad g p0), .int p1, .int p2] : List Value).toArray) s 0 0 (dA g)) (F0 mth 15 ls [])) (K := fun q => (fun (v13 : _) => ∀ (H : Heap) (locs : List Loc) (ls : Array Slot), va_P g.1 vwCl (dws g m) H → va_S (dA g) s.heap H locs → lv_has ls 5 [(1, .int p1), (2, .int p2), (3, .int v13)] → W p l e (headSpec wsX12_isAhead (dRm 2 47)).room s mth (([.ref (dad g p0), .int p1, .int p2] : List Value).toArray) below meth c H locs 0 0 (MQ below (dQI g r0 m) (([.ref (dad g p0), .int p1, .int p2] : List Value).toArray) s 0 0 (dA g)) (F0 mth 55 ls [])) q) ?_ dFl _ qL6 hqL6 ?_ H locs ls hP hS (lv_sub hl [0, 1, 2, 3, 4] rfl)
  · intro q o h hCL6 hEL6
    obtain ⟨v7, v8⟩ := q
    have h : fX12_isAhead_l15 m p1 p2 v7 v8 = some o := h
    intro H locs ls hP hS hl
    have hP : va_P g.1 vwCl (dws g m) H := hP
    have hl : lv_has ls 5 [(4, .int v7), (3, .int v8), (0, .ref (dad g p0)), (1, .int p1), (2, .int p2)] := hl
    unfold fX12_isAhead_l15 at h
    refine lv_iload S.1 S.2.1 dX12_isAhead_15 (lv_at hl 0 rfl) ?_
    refine lv_iconst (v := 4) S.1 S.2.1 dX12_isAhead_17 (by decide) ?_
    refine lv_icmp_ge (tgt := 55) S.1 S.2.1 dX12_isAhead_18 (by decide) (fun cq => ?_) (fun cq => ?_)
    · have h := d_t cq h
      obtain rfl := Option.some.inj h
      exact hEL6 _ rfl H locs ls hP hS (lv_sub hl [3, 4, 1] rfl)
    · have h := d_f cq h
      refine lv_iload_n S.1 S.2.1 dX12_isAhead_21 rfl (lv_at hl 1 rfl) ?_
      refine lv_if_ne (tgt := 55) S.1 S.2.1 dX12_isAhead_22 (by decide) (fun cq => ?_) (fun cq => ?_)
      · have h := d_f cq h
        obtain rfl := Option.some.inj h
        exact hEL6 _ rfl H locs ls hP hS (lv_sub hl [3, 4, 1] rfl)
      · have h := d_t cq h
        refine lv_aload_n S.1 S.2.1 dX12_isAhead_25 rfl (lv_at hl 2 rfl) ?_
        refine dgf12_19 S in12 hE hP k0 (S.2.2.2.2 (.fieldLink RX12 61 "DrillFieldModel" "captions" "[I") (List.mem_of_getElem? (i := 1) rfl)) dX12_isAhead_26 ?_
        refine lv_iconst (v := 4) S.1 S.2.1 dX12_isAhead_29 (by decide) ?_
        refine lv_iload_n S.1 S.2.1 dX12_isAhead_30 rfl (lv_at hl 3 rfl) ?_
        refine lv_imul S.1 S.2.1 dX12_isAhead_31 ?_
        refine lv_iload S.1 S.2.1 dX12_isAhead_32 (lv_at hl 0 rfl) ?_
        refine lv_iadd S.1 S.2.1 dX12_isAhead_34 ?_
        obtain ⟨hi, h⟩ := d_g h
        refine d_iald S hE hP dk_459 hi dX12_isAhead_35 ?_
        refine lv_aload_n S.1 S.2.1 dX12_isAhead_36 rfl (lv_at hl 2 rfl) ?_
        refine dgf12_19 S in12 hE hP k0 (S.2.2.2.2 (.fieldLink RX12 61 "DrillFieldModel" "captions" "[I") (List.mem_of_getElem? (i := 1) rfl)) dX12_isAhead_37 ?_
        refine lv_iconst (v := 4) S.1 S.2.1 dX12_isAhead_40 (by decide) ?_
        refine lv_iload_n S.1 S.2.1 dX12_isAhead_41 rfl (lv_at hl 4 rfl) ?_
        refine lv_imul S.1 S.2.1 dX12_isAhead_42 ?_
        refine lv_iload S.1 S.2.1 dX12_isAhead_43 (lv_at hl 0 rfl) ?_
        refine lv_iadd S.1 S.2.1 dX12_isAhead_45 ?_
        obtain ⟨hi, h⟩ := d_g h
        refine d_iald S hE hP dk_459 hi dX12_isAhead_46 ?_
        refine lv_isub S.1 S.2.1 dX12_isAhead_47 ?_
        refine lv_topi (fun v11 ev11 => ?_)
        have h := d_let ev11 h
        refine lv_istore_n (lv' := [(3, .int v11), (4, .int v7), (0, .ref (dad g p0)), (1, .int p1), (2, .int p2)]) S.1 S.2.1 dX12_isAhead_48 rfl hl (by decide) rfl (fun ls hl => ?_)
        obtain ⟨v12, ev12⟩ : ∃ z : Int32, z = v7 + 1 := ⟨_, rfl⟩
        have h := d_let ev12 h
        refine lv_iinc (v := v12) (lv' := [(4, .int v12), (3, .int v11), (0, .ref (dad g p0)), (1, .int p1), (2, .int p2)]) S.1 S.2.1 dX12_isAhead_49 hl (k := 1) rfl (by rw [ev12]; rfl) (by decide) rfl (fun ls hl => ?_)
        refine lv_goto (tgt := 15) S.1 S.2.1 dX12_isAhead_52 (by decide) ?_
        obtain rfl := Option.some.inj h
        exact hCL6 _ rfl H locs ls hP hS (lv_sub hl [0, 1, 2, 3, 4] rfl)
  · obtain ⟨v13, rfl⟩ : ∃ z, z = qL6 := ⟨_, rfl⟩
    have h := d_p1 h
    intro H locs ls hP hS hl
    have hP : va_P g.1 vwCl (dws g m) H := hP
    have hl : lv_has ls 5 [(1, .int p1), (2, .int p2), (3, .int v13)] := hl
    refine lv_iload_n S.1 S.2.1 dX12_isAhead_55 rfl (lv_at hl 2 rfl) ?_
    refine lv_if_gt (tgt := 68) S.1 S.2.1 dX12_isAhead_56 (by decide) (fun cq => ?_) (fun cq => ?_)
    · have h := d_t cq h
      refine lv_iconst (v := 1) S.1 S.2.1 dX12_isAhead_68 (by decide) ?_
      refine lv_goto (tgt := 73) S.1 S.2.1 dX12_isAhead_69 (by decide) ?_
      obtain rfl := Option.some.inj h
      exact dti S hr hlk hE hP hS rfl dX12_isAhead_73
    · have h := d_f cq h
      refine lv_iload_n S.1 S.2.1 dX12_isAhead_59 rfl (lv_at hl 2 rfl) ?_
      refine lv_if_ne (tgt := 72) S.1 S.2.1 dX12_isAhead_60 (by decide) (fun cq => ?_) (fun cq => ?_)
      · have h := d_f cq h
        refine lv_iconst (v := 0) S.1 S.2.1 dX12_isAhead_72 (by decide) ?_
        obtain rfl := Option.some.inj h
        exact dti S hr hlk hE hP hS rfl dX12_isAhead_73
      · have h := d_t cq h
        refine lv_iload_n S.1 S.2.1 dX12_isAhead_63 rfl (lv_at hl 0 rfl) ?_
        refine lv_iload_n S.1 S.2.1 dX12_isAhead_64 rfl (lv_at hl 1 rfl) ?_
        refine lv_icmp_ge (tgt := 72) S.1 S.2.1 dX12_isAhead_65 (by decide) (fun cq => ?_) (fun cq => ?_)
        · have h := d_t cq h
          refine lv_iconst (v := 0) S.1 S.2.1 dX12_isAhead_72 (by decide) ?_
          obtain rfl := Option.some.inj h
          exact dti S hr hlk hE hP hS rfl dX12_isAhead_73
        · have h := d_f cq h
          refine lv_iconst (v := 1) S.1 S.2.1 dX12_isAhead_68 (by decide) ?_
          refine lv_goto (tgt := 73) S.1 S.2.1 dX12_isAhead_69 (by decide) ?_
          obtain rfl := Option.some.inj h
          exact dti S hr hlk hE hP hS rfl dX12_isAhead_73
set_option maxRecDepth 20000 in
theorem ggX12_judge_X12_isIn : GoodIn wsX12_judge wsX12_isIn := goodIn_r _ [6] (by decide +kernel) (by decide +kernel)
set_option maxRecDepth 20000 in
theorem gX12_judge_X12_isIn : GoodIn wsX12_judge (va_wsS RX12 79 yX12_isIn wsX12_isIn) := goodIn_app (goodIn_of _ (by decide +kernel)) ggX12_judge_X12_isIn
set_option maxRecDepth 20000 in
theorem ggX12_judge_X12_points : GoodIn wsX12_judge wsX12_points := goodIn_r _ [10, 11, 12, 2, 13, 14, 15, 16, 5, 17, 18, 19, 20, 21, 22, 23, 24, 25, 26, 27, 28, 29, 30, 31, 32, 33, 34, 35, 36, 37, 38, 39, 40, 41, 42, 43, 44, 45, 46, 47, 48] (by decide +kernel) (by decide +kernel)
set_option maxRecDepth 20000 in
theorem gX12_judge_X12_points : GoodIn wsX12_judge (wsV RX12 223 RX12 yX12_points wsX12_points) := goodIn_app (goodIn_of _ (by decide +kernel)) ggX12_judge_X12_points
theorem dX12_judge_0 : decode cX12_judge 0 = .ok (.aload_n 0, 1) := by decide +kernel
theorem dX12_judge_1 : decode cX12_judge 1 = .ok (.iload_n 1, 1) := by decide +kernel
theorem dX12_judge_2 : decode cX12_judge 2 = .ok (.iconst 0, 1) := by decide +kernel
theorem dX12_judge_3 : decode cX12_judge 3 = .ok (.iconst 5, 1) := by decide +kernel
theorem dX12_judge_4 : decode cX12_judge 4 = .ok (.invokestatic 79, 3) := by decide +kernel
theorem dX12_judge_7 : decode cX12_judge 7 = .ok (.ifCond .eq 12, 3) := by decide +kernel
theorem dX12_judge_10 : decode cX12_judge 10 = .ok (.iload_n 2, 1) := by decide +kernel
theorem dX12_judge_11 : decode cX12_judge 11 = .ok (.iconst 0, 1) := by decide +kernel
theorem dX12_judge_12 : decode cX12_judge 12 = .ok (.iconst 3, 1) := by decide +kernel
theorem dX12_judge_13 : decode cX12_judge 13 = .ok (.invokestatic 79, 3) := by decide +kernel
theorem dX12_judge_16 : decode cX12_judge 16 = .ok (.ifCond .ne 7, 3) := by decide +kernel
theorem dX12_judge_19 : decode cX12_judge 19 = .ok (.iconst 1, 1) := by decide +kernel
theorem dX12_judge_20 : decode cX12_judge 20 = .ok (.goto 19, 3) := by decide +kernel
theorem dX12_judge_23 : decode cX12_judge 23 = .ok (.iload_n 3, 1) := by decide +kernel
theorem dX12_judge_24 : decode cX12_judge 24 = .ok (.iconst 0, 1) := by decide +kernel
theorem dX12_judge_25 : decode cX12_judge 25 = .ok (.sipush 1000, 3) := by decide +kernel
theorem dX12_judge_28 : decode cX12_judge 28 = .ok (.invokestatic 79, 3) := by decide +kernel
theorem dX12_judge_31 : decode cX12_judge 31 = .ok (.ifCond .ne 7, 3) := by decide +kernel
theorem dX12_judge_34 : decode cX12_judge 34 = .ok (.iconst 2, 1) := by decide +kernel
theorem dX12_judge_35 : decode cX12_judge 35 = .ok (.goto 4, 3) := by decide +kernel
theorem dX12_judge_38 : decode cX12_judge 38 = .ok (.iconst 0, 1) := by decide +kernel
theorem dX12_judge_39 : decode cX12_judge 39 = .ok (.putfield 76, 3) := by decide +kernel
theorem dX12_judge_42 : decode cX12_judge 42 = .ok (.aload_n 0, 1) := by decide +kernel
theorem dX12_judge_43 : decode cX12_judge 43 = .ok (.getfield 76, 3) := by decide +kernel
theorem dX12_judge_46 : decode cX12_judge 46 = .ok (.ifCond .le 5, 3) := by decide +kernel
theorem dX12_judge_49 : decode cX12_judge 49 = .ok (.iconst 0, 1) := by decide +kernel
theorem dX12_judge_50 : decode cX12_judge 50 = .ok (.ireturn, 1) := by decide +kernel
theorem dX12_judge_51 : decode cX12_judge 51 = .ok (.aload_n 0, 1) := by decide +kernel
theorem dX12_judge_52 : decode cX12_judge 52 = .ok (.getfield 61, 3) := by decide +kernel
theorem dX12_judge_55 : decode cX12_judge 55 = .ok (.iconst 4, 1) := by decide +kernel
theorem dX12_judge_56 : decode cX12_judge 56 = .ok (.iload_n 1, 1) := by decide +kernel
theorem dX12_judge_57 : decode cX12_judge 57 = .ok (.imul, 1) := by decide +kernel
theorem dX12_judge_58 : decode cX12_judge 58 = .ok (.iload_n 2, 1) := by decide +kernel
theorem dX12_judge_59 : decode cX12_judge 59 = .ok (.iadd, 1) := by decide +kernel
theorem dX12_judge_60 : decode cX12_judge 60 = .ok (.iload_n 3, 1) := by decide +kernel
theorem dX12_judge_61 : decode cX12_judge 61 = .ok (.iastore, 1) := by decide +kernel
theorem dX12_judge_62 : decode cX12_judge 62 = .ok (.aload_n 0, 1) := by decide +kernel
theorem dX12_judge_63 : decode cX12_judge 63 = .ok (.iload_n 1, 1) := by decide +kernel
theorem dX12_judge_64 : decode cX12_judge 64 = .ok (.invokevirtual 223, 3) := by decide +kernel
theorem dX12_judge_67 : decode cX12_judge 67 = .ok (.ireturn, 1) := by decide +kernel
def fX12_judge (m : dM) (p0 : Nat) (p1 : Int32) (p2 : Int32) (p3 : Int32) : Option (Int32 × dM) := dg (dkg p0 13) ((fX12_isIn m p1 0 5).bind (fun v2 => if v2 = 0 then dlet (d1 m p0 25 1) (fun m3 => some (0, m3)) else (fX12_isIn m p2 0 3).bind (fun v5 => if v5 = 0 then dlet (d1 m p0 25 1) (fun m13 => some (0, m13)) else (fX12_isIn m p3 0 1000).bind (fun v7 => if v7 = 0 then dlet (d1 m p0 25 2) (fun m12 => some (0, m12)) else dlet (d1 m p0 25 0) (fun m8 => dg (dIx ((4 * p1) + p2) (dL 459)) (dlet (d1 m8 459 (Int32.toNatClampNeg ((4 * p1) + p2)) p3) (fun m9 => (fX12_points m9 p0 p1).bind (fun v11 => some (v11, m9)))))))))
set_option maxHeartbeats 4000000 in
set_option maxRecDepth 100000 in
theorem kX12_judge (l : Launch) (g : dG) {m : dM} {p0 : Nat} {p1 : Int32} {p2 : Int32} {p3 : Int32} {r0 : Int32} {m0 : dM} (h : fX12_judge m p0 p1 p2 p3 = some (r0, m0)) : dMet l g yX12_judge wsX12_judge (dRm 2 47) [.ref (dad g p0), .int p1, .int p2, .int p3] m (dQI g r0 m0) := by
  refine dof (cc := cX12_judge) (maxL := 4) (ret := (some .int)) _ (plainFor_of_name (by decide)) rfl (Nat.le_of_ble_eq_true rfl) ?_
  intro p e s mth below meth c S hr hlk hE H ls hP hS hl
  have S : CallFix p mth c cX12_judge 4 s _ wsX12_judge RX12 := S
  have hl : lv_has ls 4 [(0, .ref (dad g p0)), (1, .int p1), (2, .int p2), (3, .int p3)] := hl
  obtain ⟨locs, hlocs⟩ : ∃ z : List Loc, z = [] := ⟨_, rfl⟩
  rw [← hlocs] at hS ⊢
  have in12 : ∀ w ∈ wsX120, w ∈ wsX12_judge := by decide +kernel
  unfold fX12_judge at h
  obtain ⟨k0, h⟩ := d_g h
  have k0 := d_k k0
  refine lv_aload_n S.1 S.2.1 dX12_judge_0 rfl (lv_at hl 0 rfl) ?_
  refine lv_iload_n S.1 S.2.1 dX12_judge_1 rfl (lv_at hl 1 rfl) ?_
  refine lv_iconst (v := 0) S.1 S.2.1 dX12_judge_2 (by decide) ?_
  refine lv_iconst (v := 5) S.1 S.2.1 dX12_judge_3 (by decide) ?_
  obtain ⟨v2, hc1, h⟩ := d_b h
  refine dri (va_runS (As := [.int p1, .int 0, .int 5]) (rest := [.ref (dad g p0)]) S (kX12_isIn l g hc1) (va_cwS 3 S.2.2.2.2 gX12_judge_X12_isIn rfl rfl rfl ynX12_isIn ⟨Nat.le_of_ble_eq_true rfl, Nat.le_of_ble_eq_true rfl⟩) (dpS hE hP hS) rfl rfl hl.1 rfl (lv_room (Nat.le_of_ble_eq_true rfl)) dX12_judge_4 ⟨Nat.le_of_ble_eq_true rfl, Nat.le_of_ble_eq_true rfl⟩) hS (fun H locs hP hS => ?_)
  refine lv_if_eq (tgt := 19) S.1 S.2.1 dX12_judge_7 (by decide) (fun cq => ?_) (fun cq => ?_)
  · have h := d_t cq h
    refine lv_iconst (v := 1) S.1 S.2.1 dX12_judge_19 (by decide) ?_
    refine lv_goto (tgt := 39) S.1 S.2.1 dX12_judge_20 (by decide) ?_
    refine dpf12_25 S in12 hE hP hS k0 (S.2.2.2.2 (.fieldLink RX12 76 "DrillFieldModel" "thrown" "I") (List.mem_of_getElem? (i := 1) rfl)) dX12_judge_39 (fun H locs hP hS => ?_)
    obtain ⟨m3, em3⟩ : ∃ z : dM, z = d1 m p0 25 1 := ⟨_, rfl⟩
    have h := d_let em3 h
    rw [← em3] at hP
    refine lv_aload_n S.1 S.2.1 dX12_judge_42 rfl (lv_at hl 0 rfl) ?_
    refine dgf12_25 S in12 hE hP k0 (S.2.2.2.2 (.fieldLink RX12 76 "DrillFieldModel" "thrown" "I") (List.mem_of_getElem? (i := 1) rfl)) dX12_judge_43 ?_
    refine d_top (v := 1) (by rw [em3]; exact d1_get) ?_
    refine lv_if_le (tgt := 51) S.1 S.2.1 dX12_judge_46 (by decide) (fun cq => ?_) (fun cq => ?_)
    · exact absurd cq (by decide)
    · refine lv_iconst (v := 0) S.1 S.2.1 dX12_judge_49 (by decide) ?_
      obtain ⟨rfl, rfl⟩ := Prod.mk.inj (Option.some.inj h)
      exact dti S hr hlk hE hP hS rfl dX12_judge_50
  · have h := d_f cq h
    refine lv_iload_n S.1 S.2.1 dX12_judge_10 rfl (lv_at hl 2 rfl) ?_
    refine lv_iconst (v := 0) S.1 S.2.1 dX12_judge_11 (by decide) ?_
    refine lv_iconst (v := 3) S.1 S.2.1 dX12_judge_12 (by decide) ?_
    obtain ⟨v5, hc4, h⟩ := d_b h
    refine dri (va_runS (As := [.int p2, .int 0, .int 3]) (rest := [.ref (dad g p0)]) S (kX12_isIn l g hc4) (va_cwS 3 S.2.2.2.2 gX12_judge_X12_isIn rfl rfl rfl ynX12_isIn ⟨Nat.le_of_ble_eq_true rfl, Nat.le_of_ble_eq_true rfl⟩) (dpS hE hP hS) rfl rfl hl.1 rfl (lv_room (Nat.le_of_ble_eq_true rfl)) dX12_judge_13 ⟨Nat.le_of_ble_eq_true rfl, Nat.le_of_ble_eq_true rfl⟩) hS (fun H locs hP hS => ?_)
    refine lv_if_ne (tgt := 23) S.1 S.2.1 dX12_judge_16 (by decide) (fun cq => ?_) (fun cq => ?_)
    · have h := d_f cq h
      refine lv_iload_n S.1 S.2.1 dX12_judge_23 rfl (lv_at hl 3 rfl) ?_
      refine lv_iconst (v := 0) S.1 S.2.1 dX12_judge_24 (by decide) ?_
      refine lv_sipush (v := 1000) S.1 S.2.1 dX12_judge_25 (by decide) ?_
      obtain ⟨v7, hc6, h⟩ := d_b h
      refine dri (va_runS (As := [.int p3, .int 0, .int 1000]) (rest := [.ref (dad g p0)]) S (kX12_isIn l g hc6) (va_cwS 3 S.2.2.2.2 gX12_judge_X12_isIn rfl rfl rfl ynX12_isIn ⟨Nat.le_of_ble_eq_true rfl, Nat.le_of_ble_eq_true rfl⟩) (dpS hE hP hS) rfl rfl hl.1 rfl (lv_room (Nat.le_of_ble_eq_true rfl)) dX12_judge_28 ⟨Nat.le_of_ble_eq_true rfl, Nat.le_of_ble_eq_true rfl⟩) hS (fun H locs hP hS => ?_)
      refine lv_if_ne (tgt := 38) S.1 S.2.1 dX12_judge_31 (by decide) (fun cq => ?_) (fun cq => ?_)
      · have h := d_f cq h
        refine lv_iconst (v := 0) S.1 S.2.1 dX12_judge_38 (by decide) ?_
        refine dpf12_25 S in12 hE hP hS k0 (S.2.2.2.2 (.fieldLink RX12 76 "DrillFieldModel" "thrown" "I") (List.mem_of_getElem? (i := 1) rfl)) dX12_judge_39 (fun H locs hP hS => ?_)
        obtain ⟨m8, em8⟩ : ∃ z : dM, z = d1 m p0 25 0 := ⟨_, rfl⟩
        have h := d_let em8 h
        rw [← em8] at hP
        refine lv_aload_n S.1 S.2.1 dX12_judge_42 rfl (lv_at hl 0 rfl) ?_
        refine dgf12_25 S in12 hE hP k0 (S.2.2.2.2 (.fieldLink RX12 76 "DrillFieldModel" "thrown" "I") (List.mem_of_getElem? (i := 1) rfl)) dX12_judge_43 ?_
        refine d_top (v := 0) (by rw [em8]; exact d1_get) ?_
        refine lv_if_le (tgt := 51) S.1 S.2.1 dX12_judge_46 (by decide) (fun cq => ?_) (fun cq => ?_)
        · refine lv_aload_n S.1 S.2.1 dX12_judge_51 rfl (lv_at hl 0 rfl) ?_
          refine dgf12_19 S in12 hE hP k0 (S.2.2.2.2 (.fieldLink RX12 61 "DrillFieldModel" "captions" "[I") (List.mem_of_getElem? (i := 2) rfl)) dX12_judge_52 ?_
          refine lv_iconst (v := 4) S.1 S.2.1 dX12_judge_55 (by decide) ?_
          refine lv_iload_n S.1 S.2.1 dX12_judge_56 rfl (lv_at hl 1 rfl) ?_
          refine lv_imul S.1 S.2.1 dX12_judge_57 ?_
          refine lv_iload_n S.1 S.2.1 dX12_judge_58 rfl (lv_at hl 2 rfl) ?_
          refine lv_iadd S.1 S.2.1 dX12_judge_59 ?_
          refine lv_iload_n S.1 S.2.1 dX12_judge_60 rfl (lv_at hl 3 rfl) ?_
          obtain ⟨hi, h⟩ := d_g h
          refine d_iast S hE hP hS dk_459 hi dX12_judge_61 (fun H locs hP hS => ?_)
          obtain ⟨m9, em9⟩ : ∃ z : dM, z = d1 m8 459 (Int32.toNatClampNeg ((4 * p1) + p2)) p3 := ⟨_, rfl⟩
          have h := d_let em9 h
          rw [← em9] at hP
          refine lv_aload_n S.1 S.2.1 dX12_judge_62 rfl (lv_at hl 0 rfl) ?_
          refine lv_iload_n S.1 S.2.1 dX12_judge_63 rfl (lv_at hl 1 rfl) ?_
          obtain ⟨v11, hc10, h⟩ := d_b h
          refine dri (va_runV (As := [.int p1]) (rest := []) S (kX12_points l g hc10) (cwV 1 S.2.2.2.2 gX12_judge_X12_points rfl rfl rfl ynX12_points ⟨Nat.le_of_ble_eq_true rfl, Nat.le_of_ble_eq_true rfl⟩) (dpV hE hP hS (ci := 12) rfl (dat13 k0)) rfl rfl hl.1 rfl (lv_room (Nat.le_of_ble_eq_true rfl)) dX12_judge_64 ⟨Nat.le_of_ble_eq_true rfl, Nat.le_of_ble_eq_true rfl⟩) hS (fun H locs hP hS => ?_)
          obtain ⟨rfl, rfl⟩ := Prod.mk.inj (Option.some.inj h)
          exact dti S hr hlk hE hP hS rfl dX12_judge_67
        · exact absurd (by decide) cq
      · have h := d_t cq h
        refine lv_iconst (v := 2) S.1 S.2.1 dX12_judge_34 (by decide) ?_
        refine lv_goto (tgt := 39) S.1 S.2.1 dX12_judge_35 (by decide) ?_
        refine dpf12_25 S in12 hE hP hS k0 (S.2.2.2.2 (.fieldLink RX12 76 "DrillFieldModel" "thrown" "I") (List.mem_of_getElem? (i := 1) rfl)) dX12_judge_39 (fun H locs hP hS => ?_)
        obtain ⟨m12, em12⟩ : ∃ z : dM, z = d1 m p0 25 2 := ⟨_, rfl⟩
        have h := d_let em12 h
        rw [← em12] at hP
        refine lv_aload_n S.1 S.2.1 dX12_judge_42 rfl (lv_at hl 0 rfl) ?_
        refine dgf12_25 S in12 hE hP k0 (S.2.2.2.2 (.fieldLink RX12 76 "DrillFieldModel" "thrown" "I") (List.mem_of_getElem? (i := 1) rfl)) dX12_judge_43 ?_
        refine d_top (v := 2) (by rw [em12]; exact d1_get) ?_
        refine lv_if_le (tgt := 51) S.1 S.2.1 dX12_judge_46 (by decide) (fun cq => ?_) (fun cq => ?_)
        · exact absurd cq (by decide)
        · refine lv_iconst (v := 0) S.1 S.2.1 dX12_judge_49 (by decide) ?_
          obtain ⟨rfl, rfl⟩ := Prod.mk.inj (Option.some.inj h)
          exact dti S hr hlk hE hP hS rfl dX12_judge_50
    · have h := d_t cq h
      refine lv_iconst (v := 1) S.1 S.2.1 dX12_judge_19 (by decide) ?_
      refine lv_goto (tgt := 39) S.1 S.2.1 dX12_judge_20 (by decide) ?_
      refine dpf12_25 S in12 hE hP hS k0 (S.2.2.2.2 (.fieldLink RX12 76 "DrillFieldModel" "thrown" "I") (List.mem_of_getElem? (i := 1) rfl)) dX12_judge_39 (fun H locs hP hS => ?_)
      obtain ⟨m13, em13⟩ : ∃ z : dM, z = d1 m p0 25 1 := ⟨_, rfl⟩
      have h := d_let em13 h
      rw [← em13] at hP
      refine lv_aload_n S.1 S.2.1 dX12_judge_42 rfl (lv_at hl 0 rfl) ?_
      refine dgf12_25 S in12 hE hP k0 (S.2.2.2.2 (.fieldLink RX12 76 "DrillFieldModel" "thrown" "I") (List.mem_of_getElem? (i := 1) rfl)) dX12_judge_43 ?_
      refine d_top (v := 1) (by rw [em13]; exact d1_get) ?_
      refine lv_if_le (tgt := 51) S.1 S.2.1 dX12_judge_46 (by decide) (fun cq => ?_) (fun cq => ?_)
      · exact absurd cq (by decide)
      · refine lv_iconst (v := 0) S.1 S.2.1 dX12_judge_49 (by decide) ?_
        obtain ⟨rfl, rfl⟩ := Prod.mk.inj (Option.some.inj h)
        exact dti S hr hlk hE hP hS rfl dX12_judge_50
set_option maxRecDepth 20000 in
theorem ggX12_lasts_X12_time : GoodIn wsX12_lasts wsX12_time := goodIn_r _ [6, 7, 8, 9, 10, 11, 12, 13, 14, 15, 16, 17, 18, 19, 20, 21, 22, 23, 24, 25, 26, 27, 28, 29, 30, 31, 32, 33, 34, 35, 36, 37] (by decide +kernel) (by decide +kernel)
set_option maxRecDepth 20000 in
theorem gX12_lasts_X12_time : GoodIn wsX12_lasts (wsV RX12 217 RX12 yX12_time wsX12_time) := goodIn_app (goodIn_of _ (by decide +kernel)) ggX12_lasts_X12_time
theorem dX12_lasts_0 : decode cX12_lasts 0 = .ok (.aload_n 0, 1) := by decide +kernel
theorem dX12_lasts_1 : decode cX12_lasts 1 = .ok (.iconst 0, 1) := by decide +kernel
theorem dX12_lasts_2 : decode cX12_lasts 2 = .ok (.putfield 76, 3) := by decide +kernel
theorem dX12_lasts_5 : decode cX12_lasts 5 = .ok (.aload_n 0, 1) := by decide +kernel
theorem dX12_lasts_6 : decode cX12_lasts 6 = .ok (.invokevirtual 217, 3) := by decide +kernel
theorem dX12_lasts_9 : decode cX12_lasts 9 = .ok (.ireturn, 1) := by decide +kernel
def fX12_lasts (m : dM) (p0 : Nat) : Option (Int32 × dM) := dg (dkg p0 13) (dlet (d1 m p0 25 0) (fun m1 => (fX12_time m1 p0).bind (fun v3 => some (v3, m1))))
set_option maxHeartbeats 4000000 in
set_option maxRecDepth 100000 in
theorem kX12_lasts (l : Launch) (g : dG) {m : dM} {p0 : Nat} {r0 : Int32} {m0 : dM} (h : fX12_lasts m p0 = some (r0, m0)) : dMet l g yX12_lasts wsX12_lasts (dRm 1 22) [.ref (dad g p0)] m (dQI g r0 m0) := by
  refine dof (cc := cX12_lasts) (maxL := 1) (ret := (some .int)) _ (plainFor_of_name (by decide)) rfl (Nat.le_of_ble_eq_true rfl) ?_
  intro p e s mth below meth c S hr hlk hE H ls hP hS hl
  have S : CallFix p mth c cX12_lasts 1 s _ wsX12_lasts RX12 := S
  have hl : lv_has ls 1 [(0, .ref (dad g p0))] := hl
  obtain ⟨locs, hlocs⟩ : ∃ z : List Loc, z = [] := ⟨_, rfl⟩
  rw [← hlocs] at hS ⊢
  have in12 : ∀ w ∈ wsX120, w ∈ wsX12_lasts := by decide +kernel
  unfold fX12_lasts at h
  obtain ⟨k0, h⟩ := d_g h
  have k0 := d_k k0
  refine lv_aload_n S.1 S.2.1 dX12_lasts_0 rfl (lv_at hl 0 rfl) ?_
  refine lv_iconst (v := 0) S.1 S.2.1 dX12_lasts_1 (by decide) ?_
  refine dpf12_25 S in12 hE hP hS k0 (S.2.2.2.2 (.fieldLink RX12 76 "DrillFieldModel" "thrown" "I") (List.mem_of_getElem? (i := 1) rfl)) dX12_lasts_2 (fun H locs hP hS => ?_)
  obtain ⟨m1, em1⟩ : ∃ z : dM, z = d1 m p0 25 0 := ⟨_, rfl⟩
  have h := d_let em1 h
  rw [← em1] at hP
  refine lv_aload_n S.1 S.2.1 dX12_lasts_5 rfl (lv_at hl 0 rfl) ?_
  obtain ⟨v3, hc2, h⟩ := d_b h
  refine dri (va_runV (As := []) (rest := []) S (kX12_time l g hc2) (cwV 0 S.2.2.2.2 gX12_lasts_X12_time rfl rfl rfl ynX12_time ⟨Nat.le_of_ble_eq_true rfl, Nat.le_of_ble_eq_true rfl⟩) (dpV hE hP hS (ci := 12) rfl (dat13 k0)) rfl rfl hl.1 rfl (lv_room (Nat.le_of_ble_eq_true rfl)) dX12_lasts_6 ⟨Nat.le_of_ble_eq_true rfl, Nat.le_of_ble_eq_true rfl⟩) hS (fun H locs hP hS => ?_)
  obtain ⟨rfl, rfl⟩ := Prod.mk.inj (Option.some.inj h)
  exact dti S hr hlk hE hP hS rfl dX12_lasts_9
set_option maxRecDepth 20000 in
theorem ggX12_legs_X12_isDot : GoodIn wsX12_legs wsX12_isDot := goodIn_r _ [7, 8, 9, 10, 6, 11, 12, 13, 14, 15, 16, 17, 18, 19, 20, 21, 22, 23, 24, 25, 26, 27, 28, 29, 30, 31, 32, 33, 34, 35, 36, 37, 38, 39] (by decide +kernel) (by decide +kernel)
set_option maxRecDepth 20000 in
theorem gX12_legs_X12_isDot : GoodIn wsX12_legs (wsV RX12 89 RX12 yX12_isDot wsX12_isDot) := goodIn_app (goodIn_of _ (by decide +kernel)) ggX12_legs_X12_isDot
set_option maxRecDepth 20000 in
theorem ggX12_legs_X12_isIn : GoodIn wsX12_legs wsX12_isIn := goodIn_r _ [11] (by decide +kernel) (by decide +kernel)
set_option maxRecDepth 20000 in
theorem gX12_legs_X12_isIn : GoodIn wsX12_legs (va_wsS RX12 79 yX12_isIn wsX12_isIn) := goodIn_app (goodIn_of _ (by decide +kernel)) ggX12_legs_X12_isIn
theorem dX12_legs_0 : decode cX12_legs 0 = .ok (.aload_n 0, 1) := by decide +kernel
theorem dX12_legs_1 : decode cX12_legs 1 = .ok (.aload_n 0, 1) := by decide +kernel
theorem dX12_legs_2 : decode cX12_legs 2 = .ok (.iload_n 1, 1) := by decide +kernel
theorem dX12_legs_3 : decode cX12_legs 3 = .ok (.invokevirtual 89, 3) := by decide +kernel
theorem dX12_legs_6 : decode cX12_legs 6 = .ok (.ifCond .ne 7, 3) := by decide +kernel
theorem dX12_legs_9 : decode cX12_legs 9 = .ok (.iconst 1, 1) := by decide +kernel
theorem dX12_legs_10 : decode cX12_legs 10 = .ok (.goto 18, 3) := by decide +kernel
theorem dX12_legs_13 : decode cX12_legs 13 = .ok (.iload_n 2, 1) := by decide +kernel
theorem dX12_legs_14 : decode cX12_legs 14 = .ok (.iconst 5, 1) := by decide +kernel
theorem dX12_legs_15 : decode cX12_legs 15 = .ok (.bipush 40, 2) := by decide +kernel
theorem dX12_legs_17 : decode cX12_legs 17 = .ok (.invokestatic 79, 3) := by decide +kernel
theorem dX12_legs_20 : decode cX12_legs 20 = .ok (.ifCond .ne 7, 3) := by decide +kernel
theorem dX12_legs_23 : decode cX12_legs 23 = .ok (.iconst 2, 1) := by decide +kernel
theorem dX12_legs_24 : decode cX12_legs 24 = .ok (.goto 4, 3) := by decide +kernel
theorem dX12_legs_27 : decode cX12_legs 27 = .ok (.iconst 0, 1) := by decide +kernel
theorem dX12_legs_28 : decode cX12_legs 28 = .ok (.putfield 76, 3) := by decide +kernel
theorem dX12_legs_31 : decode cX12_legs 31 = .ok (.aload_n 0, 1) := by decide +kernel
theorem dX12_legs_32 : decode cX12_legs 32 = .ok (.getfield 76, 3) := by decide +kernel
theorem dX12_legs_35 : decode cX12_legs 35 = .ok (.ifCond .le 5, 3) := by decide +kernel
theorem dX12_legs_38 : decode cX12_legs 38 = .ok (.iconst 0, 1) := by decide +kernel
theorem dX12_legs_39 : decode cX12_legs 39 = .ok (.ireturn, 1) := by decide +kernel
theorem dX12_legs_40 : decode cX12_legs 40 = .ok (.aload_n 0, 1) := by decide +kernel
theorem dX12_legs_41 : decode cX12_legs 41 = .ok (.getfield 13, 3) := by decide +kernel
theorem dX12_legs_44 : decode cX12_legs 44 = .ok (.iload_n 1, 1) := by decide +kernel
theorem dX12_legs_45 : decode cX12_legs 45 = .ok (.iaload, 1) := by decide +kernel
theorem dX12_legs_46 : decode cX12_legs 46 = .ok (.istore_n 3, 1) := by decide +kernel
theorem dX12_legs_47 : decode cX12_legs 47 = .ok (.aload_n 0, 1) := by decide +kernel
theorem dX12_legs_48 : decode cX12_legs 48 = .ok (.getfield 13, 3) := by decide +kernel
theorem dX12_legs_51 : decode cX12_legs 51 = .ok (.iload_n 1, 1) := by decide +kernel
theorem dX12_legs_52 : decode cX12_legs 52 = .ok (.iload_n 2, 1) := by decide +kernel
theorem dX12_legs_53 : decode cX12_legs 53 = .ok (.iastore, 1) := by decide +kernel
theorem dX12_legs_54 : decode cX12_legs 54 = .ok (.iload_n 3, 1) := by decide +kernel
theorem dX12_legs_55 : decode cX12_legs 55 = .ok (.ireturn, 1) := by decide +kernel
def fX12_legs (m : dM) (p0 : Nat) (p1 : Int32) (p2 : Int32) : Option (Int32 × dM) := dg (dkg p0 13) ((fX12_isDot m p0 p1).bind (fun v2 => if v2 = 0 then dlet (d1 m p0 25 1) (fun m9 => some (0, m9)) else (fX12_isIn m p2 5 40).bind (fun v4 => if v4 = 0 then dlet (d1 m p0 25 2) (fun m8 => some (0, m8)) else dlet (d1 m p0 25 0) (fun m5 => dg (dIx p1 (dL 445)) (dlet (m5.1 445 (Int32.toNatClampNeg (p1)) : Int32) (fun v6 => dg (dIx p1 (dL 445)) (dlet (d1 m5 445 (Int32.toNatClampNeg (p1)) p2) (fun m7 => some (v6, m7)))))))))
set_option maxHeartbeats 4000000 in
set_option maxRecDepth 100000 in
theorem kX12_legs (l : Launch) (g : dG) {m : dM} {p0 : Nat} {p1 : Int32} {p2 : Int32} {r0 : Int32} {m0 : dM} (h : fX12_legs m p0 p1 p2 = some (r0, m0)) : dMet l g yX12_legs wsX12_legs (dRm 2 43) [.ref (dad g p0), .int p1, .int p2] m (dQI g r0 m0) := by
  refine dof (cc := cX12_legs) (maxL := 4) (ret := (some .int)) _ (plainFor_of_name (by decide)) rfl (Nat.le_of_ble_eq_true rfl) ?_
  intro p e s mth below meth c S hr hlk hE H ls hP hS hl
  have S : CallFix p mth c cX12_legs 4 s _ wsX12_legs RX12 := S
  have hl : lv_has ls 4 [(0, .ref (dad g p0)), (1, .int p1), (2, .int p2)] := hl
  obtain ⟨locs, hlocs⟩ : ∃ z : List Loc, z = [] := ⟨_, rfl⟩
  rw [← hlocs] at hS ⊢
  have in12 : ∀ w ∈ wsX120, w ∈ wsX12_legs := by decide +kernel
  unfold fX12_legs at h
  obtain ⟨k0, h⟩ := d_g h
  have k0 := d_k k0
  refine lv_aload_n S.1 S.2.1 dX12_legs_0 rfl (lv_at hl 0 rfl) ?_
  refine lv_aload_n S.1 S.2.1 dX12_legs_1 rfl (lv_at hl 0 rfl) ?_
  refine lv_iload_n S.1 S.2.1 dX12_legs_2 rfl (lv_at hl 1 rfl) ?_
  obtain ⟨v2, hc1, h⟩ := d_b h
  refine dri (va_runV (As := [.int p1]) (rest := [.ref (dad g p0)]) S (kX12_isDot l g hc1) (cwV 1 S.2.2.2.2 gX12_legs_X12_isDot rfl rfl rfl ynX12_isDot ⟨Nat.le_of_ble_eq_true rfl, Nat.le_of_ble_eq_true rfl⟩) (dpV hE hP hS (ci := 12) rfl (dat13 k0)) rfl rfl hl.1 rfl (lv_room (Nat.le_of_ble_eq_true rfl)) dX12_legs_3 ⟨Nat.le_of_ble_eq_true rfl, Nat.le_of_ble_eq_true rfl⟩) hS (fun H locs hP hS => ?_)
  refine lv_if_ne (tgt := 13) S.1 S.2.1 dX12_legs_6 (by decide) (fun cq => ?_) (fun cq => ?_)
  · have h := d_f cq h
    refine lv_iload_n S.1 S.2.1 dX12_legs_13 rfl (lv_at hl 2 rfl) ?_
    refine lv_iconst (v := 5) S.1 S.2.1 dX12_legs_14 (by decide) ?_
    refine lv_bipush (v := 40) S.1 S.2.1 dX12_legs_15 (by decide) ?_
    obtain ⟨v4, hc3, h⟩ := d_b h
    refine dri (va_runS (As := [.int p2, .int 5, .int 40]) (rest := [.ref (dad g p0)]) S (kX12_isIn l g hc3) (va_cwS 3 S.2.2.2.2 gX12_legs_X12_isIn rfl rfl rfl ynX12_isIn ⟨Nat.le_of_ble_eq_true rfl, Nat.le_of_ble_eq_true rfl⟩) (dpS hE hP hS) rfl rfl hl.1 rfl (lv_room (Nat.le_of_ble_eq_true rfl)) dX12_legs_17 ⟨Nat.le_of_ble_eq_true rfl, Nat.le_of_ble_eq_true rfl⟩) hS (fun H locs hP hS => ?_)
    refine lv_if_ne (tgt := 27) S.1 S.2.1 dX12_legs_20 (by decide) (fun cq => ?_) (fun cq => ?_)
    · have h := d_f cq h
      refine lv_iconst (v := 0) S.1 S.2.1 dX12_legs_27 (by decide) ?_
      refine dpf12_25 S in12 hE hP hS k0 (S.2.2.2.2 (.fieldLink RX12 76 "DrillFieldModel" "thrown" "I") (List.mem_of_getElem? (i := 1) rfl)) dX12_legs_28 (fun H locs hP hS => ?_)
      obtain ⟨m5, em5⟩ : ∃ z : dM, z = d1 m p0 25 0 := ⟨_, rfl⟩
      have h := d_let em5 h
      rw [← em5] at hP
      refine lv_aload_n S.1 S.2.1 dX12_legs_31 rfl (lv_at hl 0 rfl) ?_
      refine dgf12_25 S in12 hE hP k0 (S.2.2.2.2 (.fieldLink RX12 76 "DrillFieldModel" "thrown" "I") (List.mem_of_getElem? (i := 1) rfl)) dX12_legs_32 ?_
      refine d_top (v := 0) (by rw [em5]; exact d1_get) ?_
      refine lv_if_le (tgt := 40) S.1 S.2.1 dX12_legs_35 (by decide) (fun cq => ?_) (fun cq => ?_)
      · refine lv_aload_n S.1 S.2.1 dX12_legs_40 rfl (lv_at hl 0 rfl) ?_
        refine dgf12_1 S in12 hE hP k0 (S.2.2.2.2 (.fieldLink RX12 13 "DrillFieldModel" "legs" "[I") (List.mem_of_getElem? (i := 2) rfl)) dX12_legs_41 ?_
        refine lv_iload_n S.1 S.2.1 dX12_legs_44 rfl (lv_at hl 1 rfl) ?_
        obtain ⟨hi, h⟩ := d_g h
        refine d_iald S hE hP dk_445 hi dX12_legs_45 ?_
        refine lv_topi (fun v6 ev6 => ?_)
        have h := d_let ev6 h
        refine lv_istore_n (lv' := [(3, .int v6), (0, .ref (dad g p0)), (1, .int p1), (2, .int p2)]) S.1 S.2.1 dX12_legs_46 rfl hl (by decide) rfl (fun ls hl => ?_)
        refine lv_aload_n S.1 S.2.1 dX12_legs_47 rfl (lv_at hl 1 rfl) ?_
        refine dgf12_1 S in12 hE hP k0 (S.2.2.2.2 (.fieldLink RX12 13 "DrillFieldModel" "legs" "[I") (List.mem_of_getElem? (i := 2) rfl)) dX12_legs_48 ?_
        refine lv_iload_n S.1 S.2.1 dX12_legs_51 rfl (lv_at hl 2 rfl) ?_
        refine lv_iload_n S.1 S.2.1 dX12_legs_52 rfl (lv_at hl 3 rfl) ?_
        obtain ⟨hi, h⟩ := d_g h
        refine d_iast S hE hP hS dk_445 hi dX12_legs_53 (fun H locs hP hS => ?_)
        obtain ⟨m7, em7⟩ : ∃ z : dM, z = d1 m5 445 (Int32.toNatClampNeg (p1)) p2 := ⟨_, rfl⟩
        have h := d_let em7 h
        rw [← em7] at hP
        refine lv_iload_n S.1 S.2.1 dX12_legs_54 rfl (lv_at hl 0 rfl) ?_
        obtain ⟨rfl, rfl⟩ := Prod.mk.inj (Option.some.inj h)
        exact dti S hr hlk hE hP hS rfl dX12_legs_55
      · exact absurd (by decide) cq
    · have h := d_t cq h
      refine lv_iconst (v := 2) S.1 S.2.1 dX12_legs_23 (by decide) ?_
      refine lv_goto (tgt := 28) S.1 S.2.1 dX12_legs_24 (by decide) ?_
      refine dpf12_25 S in12 hE hP hS k0 (S.2.2.2.2 (.fieldLink RX12 76 "DrillFieldModel" "thrown" "I") (List.mem_of_getElem? (i := 1) rfl)) dX12_legs_28 (fun H locs hP hS => ?_)
      obtain ⟨m8, em8⟩ : ∃ z : dM, z = d1 m p0 25 2 := ⟨_, rfl⟩
      have h := d_let em8 h
      rw [← em8] at hP
      refine lv_aload_n S.1 S.2.1 dX12_legs_31 rfl (lv_at hl 0 rfl) ?_
      refine dgf12_25 S in12 hE hP k0 (S.2.2.2.2 (.fieldLink RX12 76 "DrillFieldModel" "thrown" "I") (List.mem_of_getElem? (i := 1) rfl)) dX12_legs_32 ?_
      refine d_top (v := 2) (by rw [em8]; exact d1_get) ?_
      refine lv_if_le (tgt := 40) S.1 S.2.1 dX12_legs_35 (by decide) (fun cq => ?_) (fun cq => ?_)
      · exact absurd cq (by decide)
      · refine lv_iconst (v := 0) S.1 S.2.1 dX12_legs_38 (by decide) ?_
        obtain ⟨rfl, rfl⟩ := Prod.mk.inj (Option.some.inj h)
        exact dti S hr hlk hE hP hS rfl dX12_legs_39
  · have h := d_t cq h
    refine lv_iconst (v := 1) S.1 S.2.1 dX12_legs_9 (by decide) ?_
    refine lv_goto (tgt := 28) S.1 S.2.1 dX12_legs_10 (by decide) ?_
    refine dpf12_25 S in12 hE hP hS k0 (S.2.2.2.2 (.fieldLink RX12 76 "DrillFieldModel" "thrown" "I") (List.mem_of_getElem? (i := 1) rfl)) dX12_legs_28 (fun H locs hP hS => ?_)
    obtain ⟨m9, em9⟩ : ∃ z : dM, z = d1 m p0 25 1 := ⟨_, rfl⟩
    have h := d_let em9 h
    rw [← em9] at hP
    refine lv_aload_n S.1 S.2.1 dX12_legs_31 rfl (lv_at hl 0 rfl) ?_
    refine dgf12_25 S in12 hE hP k0 (S.2.2.2.2 (.fieldLink RX12 76 "DrillFieldModel" "thrown" "I") (List.mem_of_getElem? (i := 1) rfl)) dX12_legs_32 ?_
    refine d_top (v := 1) (by rw [em9]; exact d1_get) ?_
    refine lv_if_le (tgt := 40) S.1 S.2.1 dX12_legs_35 (by decide) (fun cq => ?_) (fun cq => ?_)
    · exact absurd cq (by decide)
    · refine lv_iconst (v := 0) S.1 S.2.1 dX12_legs_38 (by decide) ?_
      obtain ⟨rfl, rfl⟩ := Prod.mk.inj (Option.some.inj h)
      exact dti S hr hlk hE hP hS rfl dX12_legs_39
set_option maxRecDepth 20000 in
theorem ggX12_line_X12_isOnField : GoodIn wsX12_line wsX12_isOnField := goodIn_r _ [4, 5, 6, 3, 7] (by decide +kernel) (by decide +kernel)
set_option maxRecDepth 20000 in
theorem gX12_line_X12_isOnField : GoodIn wsX12_line (va_wsS RX12 100 yX12_isOnField wsX12_isOnField) := goodIn_app (goodIn_of _ (by decide +kernel)) ggX12_line_X12_isOnField
set_option maxRecDepth 20000 in
theorem ggX12_line_X12_tried : GoodIn wsX12_line wsX12_tried := goodIn_r _ [11, 12, 13, 14, 15, 16, 17, 18, 19, 3, 20, 1, 2, 4, 5, 6, 7, 21, 22, 23, 24, 25, 26, 27, 28, 29, 30, 31, 32, 33, 34, 35, 36, 37, 38, 39, 40, 41, 42, 43, 44, 45, 46, 47, 48, 49, 50, 51, 52, 53] (by decide +kernel) (by decide +kernel)
set_option maxRecDepth 20000 in
theorem gX12_line_X12_tried : GoodIn wsX12_line (wsV RX12 108 RX12 yX12_tried wsX12_tried) := goodIn_app (goodIn_of _ (by decide +kernel)) ggX12_line_X12_tried
set_option maxRecDepth 20000 in
theorem ggX12_line_X12_adds : GoodIn wsX12_line wsX12_adds := goodIn_r _ [24, 25, 15, 26, 27, 28, 29, 30, 31, 32, 33, 34, 35, 36, 37, 38, 39, 40, 41, 42, 43, 44, 45, 46, 47, 48, 49, 50, 51, 52, 53] (by decide +kernel) (by decide +kernel)
set_option maxRecDepth 20000 in
theorem gX12_line_X12_adds : GoodIn wsX12_line (wsV RX12 104 RX12 yX12_adds wsX12_adds) := goodIn_app (goodIn_of _ (by decide +kernel)) ggX12_line_X12_adds
theorem dX12_line_0 : decode cX12_line 0 = .ok (.iload_n 1, 1) := by decide +kernel
theorem dX12_line_1 : decode cX12_line 1 = .ok (.iload_n 2, 1) := by decide +kernel
theorem dX12_line_2 : decode cX12_line 2 = .ok (.invokestatic 100, 3) := by decide +kernel
theorem dX12_line_5 : decode cX12_line 5 = .ok (.ifCond .eq 25, 3) := by decide +kernel
theorem dX12_line_8 : decode cX12_line 8 = .ok (.iload_n 3, 1) := by decide +kernel
theorem dX12_line_9 : decode cX12_line 9 = .ok (.iload 4, 2) := by decide +kernel
theorem dX12_line_11 : decode cX12_line 11 = .ok (.invokestatic 100, 3) := by decide +kernel
theorem dX12_line_14 : decode cX12_line 14 = .ok (.ifCond .eq 16, 3) := by decide +kernel
theorem dX12_line_17 : decode cX12_line 17 = .ok (.aload_n 0, 1) := by decide +kernel
theorem dX12_line_18 : decode cX12_line 18 = .ok (.iconst 0, 1) := by decide +kernel
theorem dX12_line_19 : decode cX12_line 19 = .ok (.iload_n 1, 1) := by decide +kernel
theorem dX12_line_20 : decode cX12_line 20 = .ok (.iload_n 2, 1) := by decide +kernel
theorem dX12_line_21 : decode cX12_line 21 = .ok (.iload_n 3, 1) := by decide +kernel
theorem dX12_line_22 : decode cX12_line 22 = .ok (.iload 4, 2) := by decide +kernel
theorem dX12_line_24 : decode cX12_line 24 = .ok (.invokevirtual 108, 3) := by decide +kernel
theorem dX12_line_27 : decode cX12_line 27 = .ok (.goto 9, 3) := by decide +kernel
theorem dX12_line_30 : decode cX12_line 30 = .ok (.aload_n 0, 1) := by decide +kernel
theorem dX12_line_31 : decode cX12_line 31 = .ok (.iconst 0, 1) := by decide +kernel
theorem dX12_line_32 : decode cX12_line 32 = .ok (.iconst 0, 1) := by decide +kernel
theorem dX12_line_33 : decode cX12_line 33 = .ok (.invokevirtual 104, 3) := by decide +kernel
theorem dX12_line_36 : decode cX12_line 36 = .ok (.ireturn, 1) := by decide +kernel
def fX12_line (m : dM) (p0 : Nat) (p1 : Int32) (p2 : Int32) (p3 : Int32) (p4 : Int32) : Option (Int32 × dM) := dg (dkg p0 13) ((fX12_isOnField m p1 p2).bind (fun v2 => if v2 = 0 then (fX12_adds m p0 0 0).bind (fun q => dP2 q (fun v5 m4 => some (v5, m4))) else (fX12_isOnField m p3 p4).bind (fun v7 => if v7 = 0 then (fX12_adds m p0 0 0).bind (fun q => dP2 q (fun v10 m9 => some (v10, m9))) else (fX12_tried m p0 0 p1 p2 p3 p4).bind (fun q => dP2 q (fun v13 m12 => some (v13, m12))))))
set_option maxHeartbeats 4000000 in
set_option maxRecDepth 100000 in
theorem kX12_line (l : Launch) (g : dG) {m : dM} {p0 : Nat} {p1 : Int32} {p2 : Int32} {p3 : Int32} {p4 : Int32} {r0 : Int32} {m0 : dM} (h : fX12_line m p0 p1 p2 p3 p4 = some (r0, m0)) : dMet l g yX12_line wsX12_line (dRm 3 71) [.ref (dad g p0), .int p1, .int p2, .int p3, .int p4] m (dQI g r0 m0) := by
  refine dof (cc := cX12_line) (maxL := 5) (ret := (some .int)) _ (plainFor_of_name (by decide)) rfl (Nat.le_of_ble_eq_true rfl) ?_
  intro p e s mth below meth c S hr hlk hE H ls hP hS hl
  have S : CallFix p mth c cX12_line 5 s _ wsX12_line RX12 := S
  have hl : lv_has ls 5 [(0, .ref (dad g p0)), (1, .int p1), (2, .int p2), (3, .int p3), (4, .int p4)] := hl
  obtain ⟨locs, hlocs⟩ : ∃ z : List Loc, z = [] := ⟨_, rfl⟩
  rw [← hlocs] at hS ⊢
  unfold fX12_line at h
  obtain ⟨k0, h⟩ := d_g h
  have k0 := d_k k0
  refine lv_iload_n S.1 S.2.1 dX12_line_0 rfl (lv_at hl 1 rfl) ?_
  refine lv_iload_n S.1 S.2.1 dX12_line_1 rfl (lv_at hl 2 rfl) ?_
  obtain ⟨v2, hc1, h⟩ := d_b h
  refine dri (va_runS (As := [.int p1, .int p2]) (rest := []) S (kX12_isOnField l g hc1) (va_cwS 2 S.2.2.2.2 gX12_line_X12_isOnField rfl rfl rfl ynX12_isOnField ⟨Nat.le_of_ble_eq_true rfl, Nat.le_of_ble_eq_true rfl⟩) (dpS hE hP hS) rfl rfl hl.1 rfl (lv_room (Nat.le_of_ble_eq_true rfl)) dX12_line_2 ⟨Nat.le_of_ble_eq_true rfl, Nat.le_of_ble_eq_true rfl⟩) hS (fun H locs hP hS => ?_)
  refine lv_if_eq (tgt := 30) S.1 S.2.1 dX12_line_5 (by decide) (fun cq => ?_) (fun cq => ?_)
  · have h := d_t cq h
    refine lv_aload_n S.1 S.2.1 dX12_line_30 rfl (lv_at hl 0 rfl) ?_
    refine lv_iconst (v := 0) S.1 S.2.1 dX12_line_31 (by decide) ?_
    refine lv_iconst (v := 0) S.1 S.2.1 dX12_line_32 (by decide) ?_
    obtain ⟨⟨v5, m4⟩, hc3, h⟩ := d_b h
    have h := d_p2 h
    refine dri (va_runV (As := [.int 0, .int 0]) (rest := []) S (kX12_adds l g hc3) (cwV 2 S.2.2.2.2 gX12_line_X12_adds rfl rfl rfl ynX12_adds ⟨Nat.le_of_ble_eq_true rfl, Nat.le_of_ble_eq_true rfl⟩) (dpV hE hP hS (ci := 12) rfl (dat13 k0)) rfl rfl hl.1 rfl (lv_room (Nat.le_of_ble_eq_true rfl)) dX12_line_33 ⟨Nat.le_of_ble_eq_true rfl, Nat.le_of_ble_eq_true rfl⟩) hS (fun H locs hP hS => ?_)
    obtain ⟨rfl, rfl⟩ := Prod.mk.inj (Option.some.inj h)
    exact dti S hr hlk hE hP hS rfl dX12_line_36
  · have h := d_f cq h
    refine lv_iload_n S.1 S.2.1 dX12_line_8 rfl (lv_at hl 3 rfl) ?_
    refine lv_iload S.1 S.2.1 dX12_line_9 (lv_at hl 4 rfl) ?_
    obtain ⟨v7, hc6, h⟩ := d_b h
    refine dri (va_runS (As := [.int p3, .int p4]) (rest := []) S (kX12_isOnField l g hc6) (va_cwS 2 S.2.2.2.2 gX12_line_X12_isOnField rfl rfl rfl ynX12_isOnField ⟨Nat.le_of_ble_eq_true rfl, Nat.le_of_ble_eq_true rfl⟩) (dpS hE hP hS) rfl rfl hl.1 rfl (lv_room (Nat.le_of_ble_eq_true rfl)) dX12_line_11 ⟨Nat.le_of_ble_eq_true rfl, Nat.le_of_ble_eq_true rfl⟩) hS (fun H locs hP hS => ?_)
    refine lv_if_eq (tgt := 30) S.1 S.2.1 dX12_line_14 (by decide) (fun cq => ?_) (fun cq => ?_)
    · have h := d_t cq h
      refine lv_aload_n S.1 S.2.1 dX12_line_30 rfl (lv_at hl 0 rfl) ?_
      refine lv_iconst (v := 0) S.1 S.2.1 dX12_line_31 (by decide) ?_
      refine lv_iconst (v := 0) S.1 S.2.1 dX12_line_32 (by decide) ?_
      obtain ⟨⟨v10, m9⟩, hc8, h⟩ := d_b h
      have h := d_p2 h
      refine dri (va_runV (As := [.int 0, .int 0]) (rest := []) S (kX12_adds l g hc8) (cwV 2 S.2.2.2.2 gX12_line_X12_adds rfl rfl rfl ynX12_adds ⟨Nat.le_of_ble_eq_true rfl, Nat.le_of_ble_eq_true rfl⟩) (dpV hE hP hS (ci := 12) rfl (dat13 k0)) rfl rfl hl.1 rfl (lv_room (Nat.le_of_ble_eq_true rfl)) dX12_line_33 ⟨Nat.le_of_ble_eq_true rfl, Nat.le_of_ble_eq_true rfl⟩) hS (fun H locs hP hS => ?_)
      obtain ⟨rfl, rfl⟩ := Prod.mk.inj (Option.some.inj h)
      exact dti S hr hlk hE hP hS rfl dX12_line_36
    · have h := d_f cq h
      refine lv_aload_n S.1 S.2.1 dX12_line_17 rfl (lv_at hl 0 rfl) ?_
      refine lv_iconst (v := 0) S.1 S.2.1 dX12_line_18 (by decide) ?_
      refine lv_iload_n S.1 S.2.1 dX12_line_19 rfl (lv_at hl 1 rfl) ?_
      refine lv_iload_n S.1 S.2.1 dX12_line_20 rfl (lv_at hl 2 rfl) ?_
      refine lv_iload_n S.1 S.2.1 dX12_line_21 rfl (lv_at hl 3 rfl) ?_
      refine lv_iload S.1 S.2.1 dX12_line_22 (lv_at hl 4 rfl) ?_
      obtain ⟨⟨v13, m12⟩, hc11, h⟩ := d_b h
      have h := d_p2 h
      refine dri (va_runV (As := [.int 0, .int p1, .int p2, .int p3, .int p4]) (rest := []) S (kX12_tried l g hc11) (cwV 5 S.2.2.2.2 gX12_line_X12_tried rfl rfl rfl ynX12_tried ⟨Nat.le_of_ble_eq_true rfl, Nat.le_of_ble_eq_true rfl⟩) (dpV hE hP hS (ci := 12) rfl (dat13 k0)) rfl rfl hl.1 rfl (lv_room (Nat.le_of_ble_eq_true rfl)) dX12_line_24 ⟨Nat.le_of_ble_eq_true rfl, Nat.le_of_ble_eq_true rfl⟩) hS (fun H locs hP hS => ?_)
      refine lv_goto (tgt := 36) S.1 S.2.1 dX12_line_27 (by decide) ?_
      obtain ⟨rfl, rfl⟩ := Prod.mk.inj (Option.some.inj h)
      exact dti S hr hlk hE hP hS rfl dX12_line_36
set_option maxRecDepth 20000 in
theorem ggX12_page_X12_isPart : GoodIn wsX12_page wsX12_isPart := goodIn_r _ [6, 7, 8, 9, 5, 10, 35, 36, 37, 38, 39, 40, 41, 42, 43, 44, 45, 46, 47, 48, 49, 50, 51, 52, 53, 54, 55, 56, 57, 58, 59, 60, 61, 62] (by decide +kernel) (by decide +kernel)
set_option maxRecDepth 20000 in
theorem gX12_page_X12_isPart : GoodIn wsX12_page (wsV RX12 152 RX12 yX12_isPart wsX12_isPart) := goodIn_app (goodIn_of _ (by decide +kernel)) ggX12_page_X12_isPart
set_option maxRecDepth 20000 in
theorem ggX12_page_X12_isDot : GoodIn wsX12_page wsX12_isDot := goodIn_r _ [14, 15, 8, 9, 5, 10, 35, 36, 37, 38, 39, 40, 41, 42, 43, 44, 45, 46, 47, 48, 49, 50, 51, 52, 53, 54, 55, 56, 57, 58, 59, 60, 61, 62] (by decide +kernel) (by decide +kernel)
set_option maxRecDepth 20000 in
theorem gX12_page_X12_isDot : GoodIn wsX12_page (wsV RX12 89 RX12 yX12_isDot wsX12_isDot) := goodIn_app (goodIn_of _ (by decide +kernel)) ggX12_page_X12_isDot
set_option maxRecDepth 20000 in
theorem ggX12_page_X12_isIn : GoodIn wsX12_page wsX12_isIn := goodIn_r _ [10] (by decide +kernel) (by decide +kernel)
set_option maxRecDepth 20000 in
theorem gX12_page_X12_isIn : GoodIn wsX12_page (va_wsS RX12 79 yX12_isIn wsX12_isIn) := goodIn_app (goodIn_of _ (by decide +kernel)) ggX12_page_X12_isIn
set_option maxRecDepth 20000 in
theorem ggX12_page_X12_says : GoodIn wsX12_page wsX12_says := goodIn_r _ [19, 20, 21, 22, 5, 23, 24, 25, 26, 27, 28, 29, 30, 31, 32, 33, 34, 35, 36, 37, 38, 39, 40, 41, 42, 43, 44, 45, 46, 47, 48, 49, 50, 51, 52, 53, 54, 55, 56, 57, 58, 59, 60, 61, 62] (by decide +kernel) (by decide +kernel)
set_option maxRecDepth 20000 in
theorem gX12_page_X12_says : GoodIn wsX12_page (wsV RX12 207 RX12 yX12_says wsX12_says) := goodIn_app (goodIn_of _ (by decide +kernel)) ggX12_page_X12_says
theorem dX12_page_0 : decode cX12_page 0 = .ok (.aload_n 0, 1) := by decide +kernel
theorem dX12_page_1 : decode cX12_page 1 = .ok (.aload_n 0, 1) := by decide +kernel
theorem dX12_page_2 : decode cX12_page 2 = .ok (.iload_n 1, 1) := by decide +kernel
theorem dX12_page_3 : decode cX12_page 3 = .ok (.invokevirtual 152, 3) := by decide +kernel
theorem dX12_page_6 : decode cX12_page 6 = .ok (.ifCond .eq 11, 3) := by decide +kernel
theorem dX12_page_9 : decode cX12_page 9 = .ok (.aload_n 0, 1) := by decide +kernel
theorem dX12_page_10 : decode cX12_page 10 = .ok (.iload_n 2, 1) := by decide +kernel
theorem dX12_page_11 : decode cX12_page 11 = .ok (.invokevirtual 89, 3) := by decide +kernel
theorem dX12_page_14 : decode cX12_page 14 = .ok (.ifCond .ne 7, 3) := by decide +kernel
theorem dX12_page_17 : decode cX12_page 17 = .ok (.iconst 1, 1) := by decide +kernel
theorem dX12_page_18 : decode cX12_page 18 = .ok (.goto 17, 3) := by decide +kernel
theorem dX12_page_21 : decode cX12_page 21 = .ok (.iload_n 3, 1) := by decide +kernel
theorem dX12_page_22 : decode cX12_page 22 = .ok (.iconst 0, 1) := by decide +kernel
theorem dX12_page_23 : decode cX12_page 23 = .ok (.iconst 3, 1) := by decide +kernel
theorem dX12_page_24 : decode cX12_page 24 = .ok (.invokestatic 79, 3) := by decide +kernel
theorem dX12_page_27 : decode cX12_page 27 = .ok (.ifCond .ne 7, 3) := by decide +kernel
theorem dX12_page_30 : decode cX12_page 30 = .ok (.iconst 2, 1) := by decide +kernel
theorem dX12_page_31 : decode cX12_page 31 = .ok (.goto 4, 3) := by decide +kernel
theorem dX12_page_34 : decode cX12_page 34 = .ok (.iconst 0, 1) := by decide +kernel
theorem dX12_page_35 : decode cX12_page 35 = .ok (.putfield 76, 3) := by decide +kernel
theorem dX12_page_38 : decode cX12_page 38 = .ok (.aload_n 0, 1) := by decide +kernel
theorem dX12_page_39 : decode cX12_page 39 = .ok (.getfield 76, 3) := by decide +kernel
theorem dX12_page_42 : decode cX12_page 42 = .ok (.ifCond .le 7, 3) := by decide +kernel
theorem dX12_page_45 : decode cX12_page 45 = .ok (.iconst 0, 1) := by decide +kernel
theorem dX12_page_46 : decode cX12_page 46 = .ok (.goto 10, 3) := by decide +kernel
theorem dX12_page_49 : decode cX12_page 49 = .ok (.aload_n 0, 1) := by decide +kernel
theorem dX12_page_50 : decode cX12_page 50 = .ok (.iload_n 1, 1) := by decide +kernel
theorem dX12_page_51 : decode cX12_page 51 = .ok (.iload_n 2, 1) := by decide +kernel
theorem dX12_page_52 : decode cX12_page 52 = .ok (.iload_n 3, 1) := by decide +kernel
theorem dX12_page_53 : decode cX12_page 53 = .ok (.invokevirtual 207, 3) := by decide +kernel
theorem dX12_page_56 : decode cX12_page 56 = .ok (.ireturn, 1) := by decide +kernel
def fX12_page (m : dM) (p0 : Nat) (p1 : Int32) (p2 : Int32) (p3 : Int32) : Option (Int32 × dM) := dg (dkg p0 13) ((fX12_isPart m p0 p1).bind (fun v2 => if v2 = 0 then dlet (d1 m p0 25 1) (fun m3 => some (0, m3)) else (fX12_isDot m p0 p2).bind (fun v5 => if v5 = 0 then dlet (d1 m p0 25 1) (fun m12 => some (0, m12)) else (fX12_isIn m p3 0 3).bind (fun v7 => if v7 = 0 then dlet (d1 m p0 25 2) (fun m11 => some (0, m11)) else dlet (d1 m p0 25 0) (fun m8 => (fX12_says m8 p0 p1 p2 p3).bind (fun v10 => some (v10, m8)))))))
set_option maxHeartbeats 4000000 in
set_option maxRecDepth 100000 in
theorem kX12_page (l : Launch) (g : dG) {m : dM} {p0 : Nat} {p1 : Int32} {p2 : Int32} {p3 : Int32} {r0 : Int32} {m0 : dM} (h : fX12_page m p0 p1 p2 p3 = some (r0, m0)) : dMet l g yX12_page wsX12_page (dRm 2 50) [.ref (dad g p0), .int p1, .int p2, .int p3] m (dQI g r0 m0) := by
  refine dof (cc := cX12_page) (maxL := 4) (ret := (some .int)) _ (plainFor_of_name (by decide)) rfl (Nat.le_of_ble_eq_true rfl) ?_
  intro p e s mth below meth c S hr hlk hE H ls hP hS hl
  have S : CallFix p mth c cX12_page 4 s _ wsX12_page RX12 := S
  have hl : lv_has ls 4 [(0, .ref (dad g p0)), (1, .int p1), (2, .int p2), (3, .int p3)] := hl
  obtain ⟨locs, hlocs⟩ : ∃ z : List Loc, z = [] := ⟨_, rfl⟩
  rw [← hlocs] at hS ⊢
  have in12 : ∀ w ∈ wsX120, w ∈ wsX12_page := by decide +kernel
  unfold fX12_page at h
  obtain ⟨k0, h⟩ := d_g h
  have k0 := d_k k0
  refine lv_aload_n S.1 S.2.1 dX12_page_0 rfl (lv_at hl 0 rfl) ?_
  refine lv_aload_n S.1 S.2.1 dX12_page_1 rfl (lv_at hl 0 rfl) ?_
  refine lv_iload_n S.1 S.2.1 dX12_page_2 rfl (lv_at hl 1 rfl) ?_
  obtain ⟨v2, hc1, h⟩ := d_b h
  refine dri (va_runV (As := [.int p1]) (rest := [.ref (dad g p0)]) S (kX12_isPart l g hc1) (cwV 1 S.2.2.2.2 gX12_page_X12_isPart rfl rfl rfl ynX12_isPart ⟨Nat.le_of_ble_eq_true rfl, Nat.le_of_ble_eq_true rfl⟩) (dpV hE hP hS (ci := 12) rfl (dat13 k0)) rfl rfl hl.1 rfl (lv_room (Nat.le_of_ble_eq_true rfl)) dX12_page_3 ⟨Nat.le_of_ble_eq_true rfl, Nat.le_of_ble_eq_true rfl⟩) hS (fun H locs hP hS => ?_)
  refine lv_if_eq (tgt := 17) S.1 S.2.1 dX12_page_6 (by decide) (fun cq => ?_) (fun cq => ?_)
  · have h := d_t cq h
    refine lv_iconst (v := 1) S.1 S.2.1 dX12_page_17 (by decide) ?_
    refine lv_goto (tgt := 35) S.1 S.2.1 dX12_page_18 (by decide) ?_
    refine dpf12_25 S in12 hE hP hS k0 (S.2.2.2.2 (.fieldLink RX12 76 "DrillFieldModel" "thrown" "I") (List.mem_of_getElem? (i := 1) rfl)) dX12_page_35 (fun H locs hP hS => ?_)
    obtain ⟨m3, em3⟩ : ∃ z : dM, z = d1 m p0 25 1 := ⟨_, rfl⟩
    have h := d_let em3 h
    rw [← em3] at hP
    refine lv_aload_n S.1 S.2.1 dX12_page_38 rfl (lv_at hl 0 rfl) ?_
    refine dgf12_25 S in12 hE hP k0 (S.2.2.2.2 (.fieldLink RX12 76 "DrillFieldModel" "thrown" "I") (List.mem_of_getElem? (i := 1) rfl)) dX12_page_39 ?_
    refine d_top (v := 1) (by rw [em3]; exact d1_get) ?_
    refine lv_if_le (tgt := 49) S.1 S.2.1 dX12_page_42 (by decide) (fun cq => ?_) (fun cq => ?_)
    · exact absurd cq (by decide)
    · refine lv_iconst (v := 0) S.1 S.2.1 dX12_page_45 (by decide) ?_
      refine lv_goto (tgt := 56) S.1 S.2.1 dX12_page_46 (by decide) ?_
      obtain ⟨rfl, rfl⟩ := Prod.mk.inj (Option.some.inj h)
      exact dti S hr hlk hE hP hS rfl dX12_page_56
  · have h := d_f cq h
    refine lv_aload_n S.1 S.2.1 dX12_page_9 rfl (lv_at hl 0 rfl) ?_
    refine lv_iload_n S.1 S.2.1 dX12_page_10 rfl (lv_at hl 2 rfl) ?_
    obtain ⟨v5, hc4, h⟩ := d_b h
    refine dri (va_runV (As := [.int p2]) (rest := [.ref (dad g p0)]) S (kX12_isDot l g hc4) (cwV 1 S.2.2.2.2 gX12_page_X12_isDot rfl rfl rfl ynX12_isDot ⟨Nat.le_of_ble_eq_true rfl, Nat.le_of_ble_eq_true rfl⟩) (dpV hE hP hS (ci := 12) rfl (dat13 k0)) rfl rfl hl.1 rfl (lv_room (Nat.le_of_ble_eq_true rfl)) dX12_page_11 ⟨Nat.le_of_ble_eq_true rfl, Nat.le_of_ble_eq_true rfl⟩) hS (fun H locs hP hS => ?_)
    refine lv_if_ne (tgt := 21) S.1 S.2.1 dX12_page_14 (by decide) (fun cq => ?_) (fun cq => ?_)
    · have h := d_f cq h
      refine lv_iload_n S.1 S.2.1 dX12_page_21 rfl (lv_at hl 3 rfl) ?_
      refine lv_iconst (v := 0) S.1 S.2.1 dX12_page_22 (by decide) ?_
      refine lv_iconst (v := 3) S.1 S.2.1 dX12_page_23 (by decide) ?_
      obtain ⟨v7, hc6, h⟩ := d_b h
      refine dri (va_runS (As := [.int p3, .int 0, .int 3]) (rest := [.ref (dad g p0)]) S (kX12_isIn l g hc6) (va_cwS 3 S.2.2.2.2 gX12_page_X12_isIn rfl rfl rfl ynX12_isIn ⟨Nat.le_of_ble_eq_true rfl, Nat.le_of_ble_eq_true rfl⟩) (dpS hE hP hS) rfl rfl hl.1 rfl (lv_room (Nat.le_of_ble_eq_true rfl)) dX12_page_24 ⟨Nat.le_of_ble_eq_true rfl, Nat.le_of_ble_eq_true rfl⟩) hS (fun H locs hP hS => ?_)
      refine lv_if_ne (tgt := 34) S.1 S.2.1 dX12_page_27 (by decide) (fun cq => ?_) (fun cq => ?_)
      · have h := d_f cq h
        refine lv_iconst (v := 0) S.1 S.2.1 dX12_page_34 (by decide) ?_
        refine dpf12_25 S in12 hE hP hS k0 (S.2.2.2.2 (.fieldLink RX12 76 "DrillFieldModel" "thrown" "I") (List.mem_of_getElem? (i := 1) rfl)) dX12_page_35 (fun H locs hP hS => ?_)
        obtain ⟨m8, em8⟩ : ∃ z : dM, z = d1 m p0 25 0 := ⟨_, rfl⟩
        have h := d_let em8 h
        rw [← em8] at hP
        refine lv_aload_n S.1 S.2.1 dX12_page_38 rfl (lv_at hl 0 rfl) ?_
        refine dgf12_25 S in12 hE hP k0 (S.2.2.2.2 (.fieldLink RX12 76 "DrillFieldModel" "thrown" "I") (List.mem_of_getElem? (i := 1) rfl)) dX12_page_39 ?_
        refine d_top (v := 0) (by rw [em8]; exact d1_get) ?_
        refine lv_if_le (tgt := 49) S.1 S.2.1 dX12_page_42 (by decide) (fun cq => ?_) (fun cq => ?_)
        · refine lv_aload_n S.1 S.2.1 dX12_page_49 rfl (lv_at hl 0 rfl) ?_
          refine lv_iload_n S.1 S.2.1 dX12_page_50 rfl (lv_at hl 1 rfl) ?_
          refine lv_iload_n S.1 S.2.1 dX12_page_51 rfl (lv_at hl 2 rfl) ?_
          refine lv_iload_n S.1 S.2.1 dX12_page_52 rfl (lv_at hl 3 rfl) ?_
          obtain ⟨v10, hc9, h⟩ := d_b h
          refine dri (va_runV (As := [.int p1, .int p2, .int p3]) (rest := []) S (kX12_says l g hc9) (cwV 3 S.2.2.2.2 gX12_page_X12_says rfl rfl rfl ynX12_says ⟨Nat.le_of_ble_eq_true rfl, Nat.le_of_ble_eq_true rfl⟩) (dpV hE hP hS (ci := 12) rfl (dat13 k0)) rfl rfl hl.1 rfl (lv_room (Nat.le_of_ble_eq_true rfl)) dX12_page_53 ⟨Nat.le_of_ble_eq_true rfl, Nat.le_of_ble_eq_true rfl⟩) hS (fun H locs hP hS => ?_)
          obtain ⟨rfl, rfl⟩ := Prod.mk.inj (Option.some.inj h)
          exact dti S hr hlk hE hP hS rfl dX12_page_56
        · exact absurd (by decide) cq
      · have h := d_t cq h
        refine lv_iconst (v := 2) S.1 S.2.1 dX12_page_30 (by decide) ?_
        refine lv_goto (tgt := 35) S.1 S.2.1 dX12_page_31 (by decide) ?_
        refine dpf12_25 S in12 hE hP hS k0 (S.2.2.2.2 (.fieldLink RX12 76 "DrillFieldModel" "thrown" "I") (List.mem_of_getElem? (i := 1) rfl)) dX12_page_35 (fun H locs hP hS => ?_)
        obtain ⟨m11, em11⟩ : ∃ z : dM, z = d1 m p0 25 2 := ⟨_, rfl⟩
        have h := d_let em11 h
        rw [← em11] at hP
        refine lv_aload_n S.1 S.2.1 dX12_page_38 rfl (lv_at hl 0 rfl) ?_
        refine dgf12_25 S in12 hE hP k0 (S.2.2.2.2 (.fieldLink RX12 76 "DrillFieldModel" "thrown" "I") (List.mem_of_getElem? (i := 1) rfl)) dX12_page_39 ?_
        refine d_top (v := 2) (by rw [em11]; exact d1_get) ?_
        refine lv_if_le (tgt := 49) S.1 S.2.1 dX12_page_42 (by decide) (fun cq => ?_) (fun cq => ?_)
        · exact absurd cq (by decide)
        · refine lv_iconst (v := 0) S.1 S.2.1 dX12_page_45 (by decide) ?_
          refine lv_goto (tgt := 56) S.1 S.2.1 dX12_page_46 (by decide) ?_
          obtain ⟨rfl, rfl⟩ := Prod.mk.inj (Option.some.inj h)
          exact dti S hr hlk hE hP hS rfl dX12_page_56
    · have h := d_t cq h
      refine lv_iconst (v := 1) S.1 S.2.1 dX12_page_17 (by decide) ?_
      refine lv_goto (tgt := 35) S.1 S.2.1 dX12_page_18 (by decide) ?_
      refine dpf12_25 S in12 hE hP hS k0 (S.2.2.2.2 (.fieldLink RX12 76 "DrillFieldModel" "thrown" "I") (List.mem_of_getElem? (i := 1) rfl)) dX12_page_35 (fun H locs hP hS => ?_)
      obtain ⟨m12, em12⟩ : ∃ z : dM, z = d1 m p0 25 1 := ⟨_, rfl⟩
      have h := d_let em12 h
      rw [← em12] at hP
      refine lv_aload_n S.1 S.2.1 dX12_page_38 rfl (lv_at hl 0 rfl) ?_
      refine dgf12_25 S in12 hE hP k0 (S.2.2.2.2 (.fieldLink RX12 76 "DrillFieldModel" "thrown" "I") (List.mem_of_getElem? (i := 1) rfl)) dX12_page_39 ?_
      refine d_top (v := 1) (by rw [em12]; exact d1_get) ?_
      refine lv_if_le (tgt := 49) S.1 S.2.1 dX12_page_42 (by decide) (fun cq => ?_) (fun cq => ?_)
      · exact absurd cq (by decide)
      · refine lv_iconst (v := 0) S.1 S.2.1 dX12_page_45 (by decide) ?_
        refine lv_goto (tgt := 56) S.1 S.2.1 dX12_page_46 (by decide) ?_
        obtain ⟨rfl, rfl⟩ := Prod.mk.inj (Option.some.inj h)
        exact dti S hr hlk hE hP hS rfl dX12_page_56
set_option maxRecDepth 20000 in
theorem ggX12_part_X12_isSet : GoodIn wsX12_part wsX12_isSet := goodIn_r _ [7, 8, 9, 10, 6, 11, 60, 61, 62, 63, 64, 65, 66, 67, 68, 69, 70, 71, 72, 73, 74, 75, 76, 77, 78, 79, 80, 81, 82, 83, 84, 85, 86, 87] (by decide +kernel) (by decide +kernel)
set_option maxRecDepth 20000 in
theorem gX12_part_X12_isSet : GoodIn wsX12_part (wsV RX12 145 RX12 yX12_isSet wsX12_isSet) := goodIn_app (goodIn_of _ (by decide +kernel)) ggX12_part_X12_isSet
set_option maxRecDepth 20000 in
theorem ggX12_part_X12_isIn : GoodIn wsX12_part wsX12_isIn := goodIn_r _ [11] (by decide +kernel) (by decide +kernel)
set_option maxRecDepth 20000 in
theorem gX12_part_X12_isIn : GoodIn wsX12_part (va_wsS RX12 79 yX12_isIn wsX12_isIn) := goodIn_app (goodIn_of _ (by decide +kernel)) ggX12_part_X12_isIn
set_option maxRecDepth 20000 in
theorem ggX12_part_X12_tells : GoodIn wsX12_part wsX12_tells := goodIn_r _ [15, 16, 17, 18, 19, 20, 21, 22, 6, 23, 1, 24, 25, 26, 27, 28, 29, 30, 31, 32, 33, 34, 35, 36, 37, 38, 39, 40, 41, 42, 43, 44, 45, 46, 47, 48, 49, 50, 51, 52, 53, 54, 55, 56, 57, 58, 59, 60, 61, 62, 63, 64, 65, 66, 67, 68, 69, 70, 71, 72, 73, 74, 75, 76, 77, 78, 79, 80, 81, 82, 83, 84, 85, 86, 87] (by decide +kernel) (by decide +kernel)
set_option maxRecDepth 20000 in
theorem gX12_part_X12_tells : GoodIn wsX12_part (wsV RX12 148 RX12 yX12_tells wsX12_tells) := goodIn_app (goodIn_of _ (by decide +kernel)) ggX12_part_X12_tells
theorem dX12_part_0 : decode cX12_part 0 = .ok (.aload_n 0, 1) := by decide +kernel
theorem dX12_part_1 : decode cX12_part 1 = .ok (.aload_n 0, 1) := by decide +kernel
theorem dX12_part_2 : decode cX12_part 2 = .ok (.iload_n 1, 1) := by decide +kernel
theorem dX12_part_3 : decode cX12_part 3 = .ok (.invokevirtual 145, 3) := by decide +kernel
theorem dX12_part_6 : decode cX12_part 6 = .ok (.ifCond .ne 7, 3) := by decide +kernel
theorem dX12_part_9 : decode cX12_part 9 = .ok (.iconst 1, 1) := by decide +kernel
theorem dX12_part_10 : decode cX12_part 10 = .ok (.goto 43, 3) := by decide +kernel
theorem dX12_part_13 : decode cX12_part 13 = .ok (.iload_n 2, 1) := by decide +kernel
theorem dX12_part_14 : decode cX12_part 14 = .ok (.iconst 1, 1) := by decide +kernel
theorem dX12_part_15 : decode cX12_part 15 = .ok (.bipush 64, 2) := by decide +kernel
theorem dX12_part_17 : decode cX12_part 17 = .ok (.invokestatic 79, 3) := by decide +kernel
theorem dX12_part_20 : decode cX12_part 20 = .ok (.ifCond .eq 15, 3) := by decide +kernel
theorem dX12_part_23 : decode cX12_part 23 = .ok (.iload_n 3, 1) := by decide +kernel
theorem dX12_part_24 : decode cX12_part 24 = .ok (.bipush 60, 2) := by decide +kernel
theorem dX12_part_26 : decode cX12_part 26 = .ok (.sipush 240, 3) := by decide +kernel
theorem dX12_part_29 : decode cX12_part 29 = .ok (.invokestatic 79, 3) := by decide +kernel
theorem dX12_part_32 : decode cX12_part 32 = .ok (.ifCond .ne 7, 3) := by decide +kernel
theorem dX12_part_35 : decode cX12_part 35 = .ok (.iconst 2, 1) := by decide +kernel
theorem dX12_part_36 : decode cX12_part 36 = .ok (.goto 17, 3) := by decide +kernel
theorem dX12_part_39 : decode cX12_part 39 = .ok (.aload_n 0, 1) := by decide +kernel
theorem dX12_part_40 : decode cX12_part 40 = .ok (.getfield 83, 3) := by decide +kernel
theorem dX12_part_43 : decode cX12_part 43 = .ok (.bipush 12, 2) := by decide +kernel
theorem dX12_part_45 : decode cX12_part 45 = .ok (.if_icmp .ne 7, 3) := by decide +kernel
theorem dX12_part_48 : decode cX12_part 48 = .ok (.iconst 3, 1) := by decide +kernel
theorem dX12_part_49 : decode cX12_part 49 = .ok (.goto 4, 3) := by decide +kernel
theorem dX12_part_52 : decode cX12_part 52 = .ok (.iconst 0, 1) := by decide +kernel
theorem dX12_part_53 : decode cX12_part 53 = .ok (.putfield 76, 3) := by decide +kernel
theorem dX12_part_56 : decode cX12_part 56 = .ok (.aload_n 0, 1) := by decide +kernel
theorem dX12_part_57 : decode cX12_part 57 = .ok (.getfield 76, 3) := by decide +kernel
theorem dX12_part_60 : decode cX12_part 60 = .ok (.ifCond .le 5, 3) := by decide +kernel
theorem dX12_part_63 : decode cX12_part 63 = .ok (.iconst 0, 1) := by decide +kernel
theorem dX12_part_64 : decode cX12_part 64 = .ok (.ireturn, 1) := by decide +kernel
theorem dX12_part_65 : decode cX12_part 65 = .ok (.aload_n 0, 1) := by decide +kernel
theorem dX12_part_66 : decode cX12_part 66 = .ok (.dup, 1) := by decide +kernel
theorem dX12_part_67 : decode cX12_part 67 = .ok (.getfield 83, 3) := by decide +kernel
theorem dX12_part_70 : decode cX12_part 70 = .ok (.iconst 1, 1) := by decide +kernel
theorem dX12_part_71 : decode cX12_part 71 = .ok (.iadd, 1) := by decide +kernel
theorem dX12_part_72 : decode cX12_part 72 = .ok (.putfield 83, 3) := by decide +kernel
theorem dX12_part_75 : decode cX12_part 75 = .ok (.aload_n 0, 1) := by decide +kernel
theorem dX12_part_76 : decode cX12_part 76 = .ok (.aload_n 0, 1) := by decide +kernel
theorem dX12_part_77 : decode cX12_part 77 = .ok (.getfield 83, 3) := by decide +kernel
theorem dX12_part_80 : decode cX12_part 80 = .ok (.iconst 1, 1) := by decide +kernel
theorem dX12_part_81 : decode cX12_part 81 = .ok (.isub, 1) := by decide +kernel
theorem dX12_part_82 : decode cX12_part 82 = .ok (.iload_n 1, 1) := by decide +kernel
theorem dX12_part_83 : decode cX12_part 83 = .ok (.iload_n 2, 1) := by decide +kernel
theorem dX12_part_84 : decode cX12_part 84 = .ok (.iload_n 3, 1) := by decide +kernel
theorem dX12_part_85 : decode cX12_part 85 = .ok (.iload 4, 2) := by decide +kernel
theorem dX12_part_87 : decode cX12_part 87 = .ok (.invokevirtual 148, 3) := by decide +kernel
theorem dX12_part_90 : decode cX12_part 90 = .ok (.aload_n 0, 1) := by decide +kernel
theorem dX12_part_91 : decode cX12_part 91 = .ok (.getfield 83, 3) := by decide +kernel
theorem dX12_part_94 : decode cX12_part 94 = .ok (.iconst 1, 1) := by decide +kernel
theorem dX12_part_95 : decode cX12_part 95 = .ok (.isub, 1) := by decide +kernel
theorem dX12_part_96 : decode cX12_part 96 = .ok (.ireturn, 1) := by decide +kernel
def fX12_part (m : dM) (p0 : Nat) (p1 : Int32) (p2 : Int32) (p3 : Int32) (p4 : Int32) : Option (Int32 × dM) := dg (dkg p0 13) ((fX12_isSet m p0 p1).bind (fun v2 => if v2 = 0 then dlet (d1 m p0 25 1) (fun m14 => some (0, m14)) else (fX12_isIn m p2 1 64).bind (fun v4 => if v4 = 0 then dlet (d1 m p0 25 2) (fun m5 => some (0, m5)) else (fX12_isIn m p3 60 240).bind (fun v7 => if v7 = 0 then dlet (d1 m p0 25 2) (fun m13 => some (0, m13)) else if (m.1 p0 8) = 12 then dlet (d1 m p0 25 3) (fun m12 => some (0, m12)) else dlet (d1 m p0 25 0) (fun m8 => dlet (d1 m8 p0 8 ((m8.1 p0 8) + 1)) (fun m9 => (fX12_tells m9 p0 ((m9.1 p0 8) - 1) p1 p2 p3 p4).bind (fun m11 => some ((m11.1 p0 8) - 1, m11))))))))
set_option maxHeartbeats 4000000 in
set_option maxRecDepth 100000 in
theorem kX12_part (l : Launch) (g : dG) {m : dM} {p0 : Nat} {p1 : Int32} {p2 : Int32} {p3 : Int32} {p4 : Int32} {r0 : Int32} {m0 : dM} (h : fX12_part m p0 p1 p2 p3 p4 = some (r0, m0)) : dMet l g yX12_part wsX12_part (dRm 6 141) [.ref (dad g p0), .int p1, .int p2, .int p3, .int p4] m (dQI g r0 m0) := by
  refine dof (cc := cX12_part) (maxL := 5) (ret := (some .int)) _ (plainFor_of_name (by decide)) rfl (Nat.le_of_ble_eq_true rfl) ?_
  intro p e s mth below meth c S hr hlk hE H ls hP hS hl
  have S : CallFix p mth c cX12_part 5 s _ wsX12_part RX12 := S
  have hl : lv_has ls 5 [(0, .ref (dad g p0)), (1, .int p1), (2, .int p2), (3, .int p3), (4, .int p4)] := hl
  obtain ⟨locs, hlocs⟩ : ∃ z : List Loc, z = [] := ⟨_, rfl⟩
  rw [← hlocs] at hS ⊢
  have in12 : ∀ w ∈ wsX120, w ∈ wsX12_part := by decide +kernel
  unfold fX12_part at h
  obtain ⟨k0, h⟩ := d_g h
  have k0 := d_k k0
  refine lv_aload_n S.1 S.2.1 dX12_part_0 rfl (lv_at hl 0 rfl) ?_
  refine lv_aload_n S.1 S.2.1 dX12_part_1 rfl (lv_at hl 0 rfl) ?_
  refine lv_iload_n S.1 S.2.1 dX12_part_2 rfl (lv_at hl 1 rfl) ?_
  obtain ⟨v2, hc1, h⟩ := d_b h
  refine dri (va_runV (As := [.int p1]) (rest := [.ref (dad g p0)]) S (kX12_isSet l g hc1) (cwV 1 S.2.2.2.2 gX12_part_X12_isSet rfl rfl rfl ynX12_isSet ⟨Nat.le_of_ble_eq_true rfl, Nat.le_of_ble_eq_true rfl⟩) (dpV hE hP hS (ci := 12) rfl (dat13 k0)) rfl rfl hl.1 rfl (lv_room (Nat.le_of_ble_eq_true rfl)) dX12_part_3 ⟨Nat.le_of_ble_eq_true rfl, Nat.le_of_ble_eq_true rfl⟩) hS (fun H locs hP hS => ?_)
  refine lv_if_ne (tgt := 13) S.1 S.2.1 dX12_part_6 (by decide) (fun cq => ?_) (fun cq => ?_)
  · have h := d_f cq h
    refine lv_iload_n S.1 S.2.1 dX12_part_13 rfl (lv_at hl 2 rfl) ?_
    refine lv_iconst (v := 1) S.1 S.2.1 dX12_part_14 (by decide) ?_
    refine lv_bipush (v := 64) S.1 S.2.1 dX12_part_15 (by decide) ?_
    obtain ⟨v4, hc3, h⟩ := d_b h
    refine dri (va_runS (As := [.int p2, .int 1, .int 64]) (rest := [.ref (dad g p0)]) S (kX12_isIn l g hc3) (va_cwS 3 S.2.2.2.2 gX12_part_X12_isIn rfl rfl rfl ynX12_isIn ⟨Nat.le_of_ble_eq_true rfl, Nat.le_of_ble_eq_true rfl⟩) (dpS hE hP hS) rfl rfl hl.1 rfl (lv_room (Nat.le_of_ble_eq_true rfl)) dX12_part_17 ⟨Nat.le_of_ble_eq_true rfl, Nat.le_of_ble_eq_true rfl⟩) hS (fun H locs hP hS => ?_)
    refine lv_if_eq (tgt := 35) S.1 S.2.1 dX12_part_20 (by decide) (fun cq => ?_) (fun cq => ?_)
    · have h := d_t cq h
      refine lv_iconst (v := 2) S.1 S.2.1 dX12_part_35 (by decide) ?_
      refine lv_goto (tgt := 53) S.1 S.2.1 dX12_part_36 (by decide) ?_
      refine dpf12_25 S in12 hE hP hS k0 (S.2.2.2.2 (.fieldLink RX12 76 "DrillFieldModel" "thrown" "I") (List.mem_of_getElem? (i := 2) rfl)) dX12_part_53 (fun H locs hP hS => ?_)
      obtain ⟨m5, em5⟩ : ∃ z : dM, z = d1 m p0 25 2 := ⟨_, rfl⟩
      have h := d_let em5 h
      rw [← em5] at hP
      refine lv_aload_n S.1 S.2.1 dX12_part_56 rfl (lv_at hl 0 rfl) ?_
      refine dgf12_25 S in12 hE hP k0 (S.2.2.2.2 (.fieldLink RX12 76 "DrillFieldModel" "thrown" "I") (List.mem_of_getElem? (i := 2) rfl)) dX12_part_57 ?_
      refine d_top (v := 2) (by rw [em5]; exact d1_get) ?_
      refine lv_if_le (tgt := 65) S.1 S.2.1 dX12_part_60 (by decide) (fun cq => ?_) (fun cq => ?_)
      · exact absurd cq (by decide)
      · refine lv_iconst (v := 0) S.1 S.2.1 dX12_part_63 (by decide) ?_
        obtain ⟨rfl, rfl⟩ := Prod.mk.inj (Option.some.inj h)
        exact dti S hr hlk hE hP hS rfl dX12_part_64
    · have h := d_f cq h
      refine lv_iload_n S.1 S.2.1 dX12_part_23 rfl (lv_at hl 3 rfl) ?_
      refine lv_bipush (v := 60) S.1 S.2.1 dX12_part_24 (by decide) ?_
      refine lv_sipush (v := 240) S.1 S.2.1 dX12_part_26 (by decide) ?_
      obtain ⟨v7, hc6, h⟩ := d_b h
      refine dri (va_runS (As := [.int p3, .int 60, .int 240]) (rest := [.ref (dad g p0)]) S (kX12_isIn l g hc6) (va_cwS 3 S.2.2.2.2 gX12_part_X12_isIn rfl rfl rfl ynX12_isIn ⟨Nat.le_of_ble_eq_true rfl, Nat.le_of_ble_eq_true rfl⟩) (dpS hE hP hS) rfl rfl hl.1 rfl (lv_room (Nat.le_of_ble_eq_true rfl)) dX12_part_29 ⟨Nat.le_of_ble_eq_true rfl, Nat.le_of_ble_eq_true rfl⟩) hS (fun H locs hP hS => ?_)
      refine lv_if_ne (tgt := 39) S.1 S.2.1 dX12_part_32 (by decide) (fun cq => ?_) (fun cq => ?_)
      · have h := d_f cq h
        refine lv_aload_n S.1 S.2.1 dX12_part_39 rfl (lv_at hl 0 rfl) ?_
        refine dgf12_8 S in12 hE hP k0 (S.2.2.2.2 (.fieldLink RX12 83 "DrillFieldModel" "parts" "I") (List.mem_of_getElem? (i := 1) rfl)) dX12_part_40 ?_
        refine lv_bipush (v := 12) S.1 S.2.1 dX12_part_43 (by decide) ?_
        refine lv_icmp_ne (tgt := 52) S.1 S.2.1 dX12_part_45 (by decide) (fun cq => ?_) (fun cq => ?_)
        · have h := d_f cq h
          refine lv_iconst (v := 0) S.1 S.2.1 dX12_part_52 (by decide) ?_
          refine dpf12_25 S in12 hE hP hS k0 (S.2.2.2.2 (.fieldLink RX12 76 "DrillFieldModel" "thrown" "I") (List.mem_of_getElem? (i := 2) rfl)) dX12_part_53 (fun H locs hP hS => ?_)
          obtain ⟨m8, em8⟩ : ∃ z : dM, z = d1 m p0 25 0 := ⟨_, rfl⟩
          have h := d_let em8 h
          rw [← em8] at hP
          refine lv_aload_n S.1 S.2.1 dX12_part_56 rfl (lv_at hl 0 rfl) ?_
          refine dgf12_25 S in12 hE hP k0 (S.2.2.2.2 (.fieldLink RX12 76 "DrillFieldModel" "thrown" "I") (List.mem_of_getElem? (i := 2) rfl)) dX12_part_57 ?_
          refine d_top (v := 0) (by rw [em8]; exact d1_get) ?_
          refine lv_if_le (tgt := 65) S.1 S.2.1 dX12_part_60 (by decide) (fun cq => ?_) (fun cq => ?_)
          · refine lv_aload_n S.1 S.2.1 dX12_part_65 rfl (lv_at hl 0 rfl) ?_
            refine lv_dup S.1 S.2.1 dX12_part_66 rfl ?_
            refine dgf12_8 S in12 hE hP k0 (S.2.2.2.2 (.fieldLink RX12 83 "DrillFieldModel" "parts" "I") (List.mem_of_getElem? (i := 1) rfl)) dX12_part_67 ?_
            refine lv_iconst (v := 1) S.1 S.2.1 dX12_part_70 (by decide) ?_
            refine lv_iadd S.1 S.2.1 dX12_part_71 ?_
            refine dpf12_8 S in12 hE hP hS k0 (S.2.2.2.2 (.fieldLink RX12 83 "DrillFieldModel" "parts" "I") (List.mem_of_getElem? (i := 1) rfl)) dX12_part_72 (fun H locs hP hS => ?_)
            obtain ⟨m9, em9⟩ : ∃ z : dM, z = d1 m8 p0 8 ((m8.1 p0 8) + 1) := ⟨_, rfl⟩
            have h := d_let em9 h
            rw [← em9] at hP
            refine lv_aload_n S.1 S.2.1 dX12_part_75 rfl (lv_at hl 0 rfl) ?_
            refine lv_aload_n S.1 S.2.1 dX12_part_76 rfl (lv_at hl 0 rfl) ?_
            refine dgf12_8 S in12 hE hP k0 (S.2.2.2.2 (.fieldLink RX12 83 "DrillFieldModel" "parts" "I") (List.mem_of_getElem? (i := 1) rfl)) dX12_part_77 ?_
            refine lv_iconst (v := 1) S.1 S.2.1 dX12_part_80 (by decide) ?_
            refine lv_isub S.1 S.2.1 dX12_part_81 ?_
            refine lv_iload_n S.1 S.2.1 dX12_part_82 rfl (lv_at hl 1 rfl) ?_
            refine lv_iload_n S.1 S.2.1 dX12_part_83 rfl (lv_at hl 2 rfl) ?_
            refine lv_iload_n S.1 S.2.1 dX12_part_84 rfl (lv_at hl 3 rfl) ?_
            refine lv_iload S.1 S.2.1 dX12_part_85 (lv_at hl 4 rfl) ?_
            obtain ⟨m11, hc10, h⟩ := d_b h
            refine drv (va_runV (As := [.int ((m9.1 p0 8) - 1), .int p1, .int p2, .int p3, .int p4]) (rest := []) S (kX12_tells l g hc10) (cwV 5 S.2.2.2.2 gX12_part_X12_tells rfl rfl rfl ynX12_tells ⟨Nat.le_of_ble_eq_true rfl, Nat.le_of_ble_eq_true rfl⟩) (dpV hE hP hS (ci := 12) rfl (dat13 k0)) rfl rfl hl.1 rfl (lv_room (Nat.le_of_ble_eq_true rfl)) dX12_part_87 ⟨Nat.le_of_ble_eq_true rfl, Nat.le_of_ble_eq_true rfl⟩) hS (fun H locs hP hS => ?_)
            refine lv_aload_n S.1 S.2.1 dX12_part_90 rfl (lv_at hl 0 rfl) ?_
            refine dgf12_8 S in12 hE hP k0 (S.2.2.2.2 (.fieldLink RX12 83 "DrillFieldModel" "parts" "I") (List.mem_of_getElem? (i := 1) rfl)) dX12_part_91 ?_
            refine lv_iconst (v := 1) S.1 S.2.1 dX12_part_94 (by decide) ?_
            refine lv_isub S.1 S.2.1 dX12_part_95 ?_
            obtain ⟨rfl, rfl⟩ := Prod.mk.inj (Option.some.inj h)
            exact dti S hr hlk hE hP hS rfl dX12_part_96
          · exact absurd (by decide) cq
        · have h := d_t cq h
          refine lv_iconst (v := 3) S.1 S.2.1 dX12_part_48 (by decide) ?_
          refine lv_goto (tgt := 53) S.1 S.2.1 dX12_part_49 (by decide) ?_
          refine dpf12_25 S in12 hE hP hS k0 (S.2.2.2.2 (.fieldLink RX12 76 "DrillFieldModel" "thrown" "I") (List.mem_of_getElem? (i := 2) rfl)) dX12_part_53 (fun H locs hP hS => ?_)
          obtain ⟨m12, em12⟩ : ∃ z : dM, z = d1 m p0 25 3 := ⟨_, rfl⟩
          have h := d_let em12 h
          rw [← em12] at hP
          refine lv_aload_n S.1 S.2.1 dX12_part_56 rfl (lv_at hl 0 rfl) ?_
          refine dgf12_25 S in12 hE hP k0 (S.2.2.2.2 (.fieldLink RX12 76 "DrillFieldModel" "thrown" "I") (List.mem_of_getElem? (i := 2) rfl)) dX12_part_57 ?_
          refine d_top (v := 3) (by rw [em12]; exact d1_get) ?_
          refine lv_if_le (tgt := 65) S.1 S.2.1 dX12_part_60 (by decide) (fun cq => ?_) (fun cq => ?_)
          · exact absurd cq (by decide)
          · refine lv_iconst (v := 0) S.1 S.2.1 dX12_part_63 (by decide) ?_
            obtain ⟨rfl, rfl⟩ := Prod.mk.inj (Option.some.inj h)
            exact dti S hr hlk hE hP hS rfl dX12_part_64
      · have h := d_t cq h
        refine lv_iconst (v := 2) S.1 S.2.1 dX12_part_35 (by decide) ?_
        refine lv_goto (tgt := 53) S.1 S.2.1 dX12_part_36 (by decide) ?_
        refine dpf12_25 S in12 hE hP hS k0 (S.2.2.2.2 (.fieldLink RX12 76 "DrillFieldModel" "thrown" "I") (List.mem_of_getElem? (i := 2) rfl)) dX12_part_53 (fun H locs hP hS => ?_)
        obtain ⟨m13, em13⟩ : ∃ z : dM, z = d1 m p0 25 2 := ⟨_, rfl⟩
        have h := d_let em13 h
        rw [← em13] at hP
        refine lv_aload_n S.1 S.2.1 dX12_part_56 rfl (lv_at hl 0 rfl) ?_
        refine dgf12_25 S in12 hE hP k0 (S.2.2.2.2 (.fieldLink RX12 76 "DrillFieldModel" "thrown" "I") (List.mem_of_getElem? (i := 2) rfl)) dX12_part_57 ?_
        refine d_top (v := 2) (by rw [em13]; exact d1_get) ?_
        refine lv_if_le (tgt := 65) S.1 S.2.1 dX12_part_60 (by decide) (fun cq => ?_) (fun cq => ?_)
        · exact absurd cq (by decide)
        · refine lv_iconst (v := 0) S.1 S.2.1 dX12_part_63 (by decide) ?_
          obtain ⟨rfl, rfl⟩ := Prod.mk.inj (Option.some.inj h)
          exact dti S hr hlk hE hP hS rfl dX12_part_64
  · have h := d_t cq h
    refine lv_iconst (v := 1) S.1 S.2.1 dX12_part_9 (by decide) ?_
    refine lv_goto (tgt := 53) S.1 S.2.1 dX12_part_10 (by decide) ?_
    refine dpf12_25 S in12 hE hP hS k0 (S.2.2.2.2 (.fieldLink RX12 76 "DrillFieldModel" "thrown" "I") (List.mem_of_getElem? (i := 2) rfl)) dX12_part_53 (fun H locs hP hS => ?_)
    obtain ⟨m14, em14⟩ : ∃ z : dM, z = d1 m p0 25 1 := ⟨_, rfl⟩
    have h := d_let em14 h
    rw [← em14] at hP
    refine lv_aload_n S.1 S.2.1 dX12_part_56 rfl (lv_at hl 0 rfl) ?_
    refine dgf12_25 S in12 hE hP k0 (S.2.2.2.2 (.fieldLink RX12 76 "DrillFieldModel" "thrown" "I") (List.mem_of_getElem? (i := 2) rfl)) dX12_part_57 ?_
    refine d_top (v := 1) (by rw [em14]; exact d1_get) ?_
    refine lv_if_le (tgt := 65) S.1 S.2.1 dX12_part_60 (by decide) (fun cq => ?_) (fun cq => ?_)
    · exact absurd cq (by decide)
    · refine lv_iconst (v := 0) S.1 S.2.1 dX12_part_63 (by decide) ?_
      obtain ⟨rfl, rfl⟩ := Prod.mk.inj (Option.some.inj h)
      exact dti S hr hlk hE hP hS rfl dX12_part_64
set_option maxRecDepth 20000 in
theorem ggX12_penalty_X12_isIn : GoodIn wsX12_penalty wsX12_isIn := goodIn_r _ [6] (by decide +kernel) (by decide +kernel)
set_option maxRecDepth 20000 in
theorem gX12_penalty_X12_isIn : GoodIn wsX12_penalty (va_wsS RX12 79 yX12_isIn wsX12_isIn) := goodIn_app (goodIn_of _ (by decide +kernel)) ggX12_penalty_X12_isIn
set_option maxRecDepth 20000 in
theorem ggX12_penalty_X12_points : GoodIn wsX12_penalty wsX12_points := goodIn_r _ [10, 11, 12, 13, 2, 14, 15, 16, 5, 17, 18, 19, 20, 21, 22, 23, 24, 25, 26, 27, 28, 29, 30, 31, 32, 33, 34, 35, 36, 37, 38, 39, 40, 41, 42, 43, 44, 45, 46, 47, 48] (by decide +kernel) (by decide +kernel)
set_option maxRecDepth 20000 in
theorem gX12_penalty_X12_points : GoodIn wsX12_penalty (wsV RX12 223 RX12 yX12_points wsX12_points) := goodIn_app (goodIn_of _ (by decide +kernel)) ggX12_penalty_X12_points
theorem dX12_penalty_0 : decode cX12_penalty 0 = .ok (.aload_n 0, 1) := by decide +kernel
theorem dX12_penalty_1 : decode cX12_penalty 1 = .ok (.iload_n 1, 1) := by decide +kernel
theorem dX12_penalty_2 : decode cX12_penalty 2 = .ok (.iconst 0, 1) := by decide +kernel
theorem dX12_penalty_3 : decode cX12_penalty 3 = .ok (.iconst 5, 1) := by decide +kernel
theorem dX12_penalty_4 : decode cX12_penalty 4 = .ok (.invokestatic 79, 3) := by decide +kernel
theorem dX12_penalty_7 : decode cX12_penalty 7 = .ok (.ifCond .ne 7, 3) := by decide +kernel
theorem dX12_penalty_10 : decode cX12_penalty 10 = .ok (.iconst 1, 1) := by decide +kernel
theorem dX12_penalty_11 : decode cX12_penalty 11 = .ok (.goto 19, 3) := by decide +kernel
theorem dX12_penalty_14 : decode cX12_penalty 14 = .ok (.iload_n 2, 1) := by decide +kernel
theorem dX12_penalty_15 : decode cX12_penalty 15 = .ok (.iconst 0, 1) := by decide +kernel
theorem dX12_penalty_16 : decode cX12_penalty 16 = .ok (.sipush 1000, 3) := by decide +kernel
theorem dX12_penalty_19 : decode cX12_penalty 19 = .ok (.invokestatic 79, 3) := by decide +kernel
theorem dX12_penalty_22 : decode cX12_penalty 22 = .ok (.ifCond .ne 7, 3) := by decide +kernel
theorem dX12_penalty_25 : decode cX12_penalty 25 = .ok (.iconst 2, 1) := by decide +kernel
theorem dX12_penalty_26 : decode cX12_penalty 26 = .ok (.goto 4, 3) := by decide +kernel
theorem dX12_penalty_29 : decode cX12_penalty 29 = .ok (.iconst 0, 1) := by decide +kernel
theorem dX12_penalty_30 : decode cX12_penalty 30 = .ok (.putfield 76, 3) := by decide +kernel
theorem dX12_penalty_33 : decode cX12_penalty 33 = .ok (.aload_n 0, 1) := by decide +kernel
theorem dX12_penalty_34 : decode cX12_penalty 34 = .ok (.getfield 76, 3) := by decide +kernel
theorem dX12_penalty_37 : decode cX12_penalty 37 = .ok (.ifCond .le 5, 3) := by decide +kernel
theorem dX12_penalty_40 : decode cX12_penalty 40 = .ok (.iconst 0, 1) := by decide +kernel
theorem dX12_penalty_41 : decode cX12_penalty 41 = .ok (.ireturn, 1) := by decide +kernel
theorem dX12_penalty_42 : decode cX12_penalty 42 = .ok (.aload_n 0, 1) := by decide +kernel
theorem dX12_penalty_43 : decode cX12_penalty 43 = .ok (.getfield 64, 3) := by decide +kernel
theorem dX12_penalty_46 : decode cX12_penalty 46 = .ok (.iload_n 1, 1) := by decide +kernel
theorem dX12_penalty_47 : decode cX12_penalty 47 = .ok (.iload_n 2, 1) := by decide +kernel
theorem dX12_penalty_48 : decode cX12_penalty 48 = .ok (.iastore, 1) := by decide +kernel
theorem dX12_penalty_49 : decode cX12_penalty 49 = .ok (.aload_n 0, 1) := by decide +kernel
theorem dX12_penalty_50 : decode cX12_penalty 50 = .ok (.iload_n 1, 1) := by decide +kernel
theorem dX12_penalty_51 : decode cX12_penalty 51 = .ok (.invokevirtual 223, 3) := by decide +kernel
theorem dX12_penalty_54 : decode cX12_penalty 54 = .ok (.ireturn, 1) := by decide +kernel
def fX12_penalty (m : dM) (p0 : Nat) (p1 : Int32) (p2 : Int32) : Option (Int32 × dM) := dg (dkg p0 13) ((fX12_isIn m p1 0 5).bind (fun v2 => if v2 = 0 then dlet (d1 m p0 25 1) (fun m10 => some (0, m10)) else (fX12_isIn m p2 0 1000).bind (fun v4 => if v4 = 0 then dlet (d1 m p0 25 2) (fun m9 => some (0, m9)) else dlet (d1 m p0 25 0) (fun m5 => dg (dIx p1 (dL 460)) (dlet (d1 m5 460 (Int32.toNatClampNeg (p1)) p2) (fun m6 => (fX12_points m6 p0 p1).bind (fun v8 => some (v8, m6))))))))
set_option maxHeartbeats 4000000 in
set_option maxRecDepth 100000 in
theorem kX12_penalty (l : Launch) (g : dG) {m : dM} {p0 : Nat} {p1 : Int32} {p2 : Int32} {r0 : Int32} {m0 : dM} (h : fX12_penalty m p0 p1 p2 = some (r0, m0)) : dMet l g yX12_penalty wsX12_penalty (dRm 2 47) [.ref (dad g p0), .int p1, .int p2] m (dQI g r0 m0) := by
  refine dof (cc := cX12_penalty) (maxL := 3) (ret := (some .int)) _ (plainFor_of_name (by decide)) rfl (Nat.le_of_ble_eq_true rfl) ?_
  intro p e s mth below meth c S hr hlk hE H ls hP hS hl
  have S : CallFix p mth c cX12_penalty 3 s _ wsX12_penalty RX12 := S
  have hl : lv_has ls 3 [(0, .ref (dad g p0)), (1, .int p1), (2, .int p2)] := hl
  obtain ⟨locs, hlocs⟩ : ∃ z : List Loc, z = [] := ⟨_, rfl⟩
  rw [← hlocs] at hS ⊢
  have in12 : ∀ w ∈ wsX120, w ∈ wsX12_penalty := by decide +kernel
  unfold fX12_penalty at h
  obtain ⟨k0, h⟩ := d_g h
  have k0 := d_k k0
  refine lv_aload_n S.1 S.2.1 dX12_penalty_0 rfl (lv_at hl 0 rfl) ?_
  refine lv_iload_n S.1 S.2.1 dX12_penalty_1 rfl (lv_at hl 1 rfl) ?_
  refine lv_iconst (v := 0) S.1 S.2.1 dX12_penalty_2 (by decide) ?_
  refine lv_iconst (v := 5) S.1 S.2.1 dX12_penalty_3 (by decide) ?_
  obtain ⟨v2, hc1, h⟩ := d_b h
  refine dri (va_runS (As := [.int p1, .int 0, .int 5]) (rest := [.ref (dad g p0)]) S (kX12_isIn l g hc1) (va_cwS 3 S.2.2.2.2 gX12_penalty_X12_isIn rfl rfl rfl ynX12_isIn ⟨Nat.le_of_ble_eq_true rfl, Nat.le_of_ble_eq_true rfl⟩) (dpS hE hP hS) rfl rfl hl.1 rfl (lv_room (Nat.le_of_ble_eq_true rfl)) dX12_penalty_4 ⟨Nat.le_of_ble_eq_true rfl, Nat.le_of_ble_eq_true rfl⟩) hS (fun H locs hP hS => ?_)
  refine lv_if_ne (tgt := 14) S.1 S.2.1 dX12_penalty_7 (by decide) (fun cq => ?_) (fun cq => ?_)
  · have h := d_f cq h
    refine lv_iload_n S.1 S.2.1 dX12_penalty_14 rfl (lv_at hl 2 rfl) ?_
    refine lv_iconst (v := 0) S.1 S.2.1 dX12_penalty_15 (by decide) ?_
    refine lv_sipush (v := 1000) S.1 S.2.1 dX12_penalty_16 (by decide) ?_
    obtain ⟨v4, hc3, h⟩ := d_b h
    refine dri (va_runS (As := [.int p2, .int 0, .int 1000]) (rest := [.ref (dad g p0)]) S (kX12_isIn l g hc3) (va_cwS 3 S.2.2.2.2 gX12_penalty_X12_isIn rfl rfl rfl ynX12_isIn ⟨Nat.le_of_ble_eq_true rfl, Nat.le_of_ble_eq_true rfl⟩) (dpS hE hP hS) rfl rfl hl.1 rfl (lv_room (Nat.le_of_ble_eq_true rfl)) dX12_penalty_19 ⟨Nat.le_of_ble_eq_true rfl, Nat.le_of_ble_eq_true rfl⟩) hS (fun H locs hP hS => ?_)
    refine lv_if_ne (tgt := 29) S.1 S.2.1 dX12_penalty_22 (by decide) (fun cq => ?_) (fun cq => ?_)
    · have h := d_f cq h
      refine lv_iconst (v := 0) S.1 S.2.1 dX12_penalty_29 (by decide) ?_
      refine dpf12_25 S in12 hE hP hS k0 (S.2.2.2.2 (.fieldLink RX12 76 "DrillFieldModel" "thrown" "I") (List.mem_of_getElem? (i := 1) rfl)) dX12_penalty_30 (fun H locs hP hS => ?_)
      obtain ⟨m5, em5⟩ : ∃ z : dM, z = d1 m p0 25 0 := ⟨_, rfl⟩
      have h := d_let em5 h
      rw [← em5] at hP
      refine lv_aload_n S.1 S.2.1 dX12_penalty_33 rfl (lv_at hl 0 rfl) ?_
      refine dgf12_25 S in12 hE hP k0 (S.2.2.2.2 (.fieldLink RX12 76 "DrillFieldModel" "thrown" "I") (List.mem_of_getElem? (i := 1) rfl)) dX12_penalty_34 ?_
      refine d_top (v := 0) (by rw [em5]; exact d1_get) ?_
      refine lv_if_le (tgt := 42) S.1 S.2.1 dX12_penalty_37 (by decide) (fun cq => ?_) (fun cq => ?_)
      · refine lv_aload_n S.1 S.2.1 dX12_penalty_42 rfl (lv_at hl 0 rfl) ?_
        refine dgf12_20 S in12 hE hP k0 (S.2.2.2.2 (.fieldLink RX12 64 "DrillFieldModel" "penalties" "[I") (List.mem_of_getElem? (i := 2) rfl)) dX12_penalty_43 ?_
        refine lv_iload_n S.1 S.2.1 dX12_penalty_46 rfl (lv_at hl 1 rfl) ?_
        refine lv_iload_n S.1 S.2.1 dX12_penalty_47 rfl (lv_at hl 2 rfl) ?_
        obtain ⟨hi, h⟩ := d_g h
        refine d_iast S hE hP hS dk_460 hi dX12_penalty_48 (fun H locs hP hS => ?_)
        obtain ⟨m6, em6⟩ : ∃ z : dM, z = d1 m5 460 (Int32.toNatClampNeg (p1)) p2 := ⟨_, rfl⟩
        have h := d_let em6 h
        rw [← em6] at hP
        refine lv_aload_n S.1 S.2.1 dX12_penalty_49 rfl (lv_at hl 0 rfl) ?_
        refine lv_iload_n S.1 S.2.1 dX12_penalty_50 rfl (lv_at hl 1 rfl) ?_
        obtain ⟨v8, hc7, h⟩ := d_b h
        refine dri (va_runV (As := [.int p1]) (rest := []) S (kX12_points l g hc7) (cwV 1 S.2.2.2.2 gX12_penalty_X12_points rfl rfl rfl ynX12_points ⟨Nat.le_of_ble_eq_true rfl, Nat.le_of_ble_eq_true rfl⟩) (dpV hE hP hS (ci := 12) rfl (dat13 k0)) rfl rfl hl.1 rfl (lv_room (Nat.le_of_ble_eq_true rfl)) dX12_penalty_51 ⟨Nat.le_of_ble_eq_true rfl, Nat.le_of_ble_eq_true rfl⟩) hS (fun H locs hP hS => ?_)
        obtain ⟨rfl, rfl⟩ := Prod.mk.inj (Option.some.inj h)
        exact dti S hr hlk hE hP hS rfl dX12_penalty_54
      · exact absurd (by decide) cq
    · have h := d_t cq h
      refine lv_iconst (v := 2) S.1 S.2.1 dX12_penalty_25 (by decide) ?_
      refine lv_goto (tgt := 30) S.1 S.2.1 dX12_penalty_26 (by decide) ?_
      refine dpf12_25 S in12 hE hP hS k0 (S.2.2.2.2 (.fieldLink RX12 76 "DrillFieldModel" "thrown" "I") (List.mem_of_getElem? (i := 1) rfl)) dX12_penalty_30 (fun H locs hP hS => ?_)
      obtain ⟨m9, em9⟩ : ∃ z : dM, z = d1 m p0 25 2 := ⟨_, rfl⟩
      have h := d_let em9 h
      rw [← em9] at hP
      refine lv_aload_n S.1 S.2.1 dX12_penalty_33 rfl (lv_at hl 0 rfl) ?_
      refine dgf12_25 S in12 hE hP k0 (S.2.2.2.2 (.fieldLink RX12 76 "DrillFieldModel" "thrown" "I") (List.mem_of_getElem? (i := 1) rfl)) dX12_penalty_34 ?_
      refine d_top (v := 2) (by rw [em9]; exact d1_get) ?_
      refine lv_if_le (tgt := 42) S.1 S.2.1 dX12_penalty_37 (by decide) (fun cq => ?_) (fun cq => ?_)
      · exact absurd cq (by decide)
      · refine lv_iconst (v := 0) S.1 S.2.1 dX12_penalty_40 (by decide) ?_
        obtain ⟨rfl, rfl⟩ := Prod.mk.inj (Option.some.inj h)
        exact dti S hr hlk hE hP hS rfl dX12_penalty_41
  · have h := d_t cq h
    refine lv_iconst (v := 1) S.1 S.2.1 dX12_penalty_10 (by decide) ?_
    refine lv_goto (tgt := 30) S.1 S.2.1 dX12_penalty_11 (by decide) ?_
    refine dpf12_25 S in12 hE hP hS k0 (S.2.2.2.2 (.fieldLink RX12 76 "DrillFieldModel" "thrown" "I") (List.mem_of_getElem? (i := 1) rfl)) dX12_penalty_30 (fun H locs hP hS => ?_)
    obtain ⟨m10, em10⟩ : ∃ z : dM, z = d1 m p0 25 1 := ⟨_, rfl⟩
    have h := d_let em10 h
    rw [← em10] at hP
    refine lv_aload_n S.1 S.2.1 dX12_penalty_33 rfl (lv_at hl 0 rfl) ?_
    refine dgf12_25 S in12 hE hP k0 (S.2.2.2.2 (.fieldLink RX12 76 "DrillFieldModel" "thrown" "I") (List.mem_of_getElem? (i := 1) rfl)) dX12_penalty_34 ?_
    refine d_top (v := 1) (by rw [em10]; exact d1_get) ?_
    refine lv_if_le (tgt := 42) S.1 S.2.1 dX12_penalty_37 (by decide) (fun cq => ?_) (fun cq => ?_)
    · exact absurd cq (by decide)
    · refine lv_iconst (v := 0) S.1 S.2.1 dX12_penalty_40 (by decide) ?_
      obtain ⟨rfl, rfl⟩ := Prod.mk.inj (Option.some.inj h)
      exact dti S hr hlk hE hP hS rfl dX12_penalty_41
theorem dX12_root_0 : decode cX12_root 0 = .ok (.iconst 0, 1) := by decide +kernel
theorem dX12_root_1 : decode cX12_root 1 = .ok (.istore_n 2, 1) := by decide +kernel
theorem dX12_root_2 : decode cX12_root 2 = .ok (.sipush 4000, 3) := by decide +kernel
theorem dX12_root_5 : decode cX12_root 5 = .ok (.istore_n 3, 1) := by decide +kernel
theorem dX12_root_6 : decode cX12_root 6 = .ok (.iload_n 2, 1) := by decide +kernel
theorem dX12_root_7 : decode cX12_root 7 = .ok (.iload_n 3, 1) := by decide +kernel
theorem dX12_root_8 : decode cX12_root 8 = .ok (.if_icmp .ge 38, 3) := by decide +kernel
theorem dX12_root_11 : decode cX12_root 11 = .ok (.iload_n 2, 1) := by decide +kernel
theorem dX12_root_12 : decode cX12_root 12 = .ok (.iload_n 3, 1) := by decide +kernel
theorem dX12_root_13 : decode cX12_root 13 = .ok (.iadd, 1) := by decide +kernel
theorem dX12_root_14 : decode cX12_root 14 = .ok (.iconst 1, 1) := by decide +kernel
theorem dX12_root_15 : decode cX12_root 15 = .ok (.iadd, 1) := by decide +kernel
theorem dX12_root_16 : decode cX12_root 16 = .ok (.iconst 2, 1) := by decide +kernel
theorem dX12_root_17 : decode cX12_root 17 = .ok (.idiv, 1) := by decide +kernel
theorem dX12_root_18 : decode cX12_root 18 = .ok (.istore 4, 2) := by decide +kernel
theorem dX12_root_20 : decode cX12_root 20 = .ok (.iload 4, 2) := by decide +kernel
theorem dX12_root_22 : decode cX12_root 22 = .ok (.i2l, 1) := by decide +kernel
theorem dX12_root_23 : decode cX12_root 23 = .ok (.iload 4, 2) := by decide +kernel
theorem dX12_root_25 : decode cX12_root 25 = .ok (.i2l, 1) := by decide +kernel
theorem dX12_root_26 : decode cX12_root 26 = .ok (.lmul, 1) := by decide +kernel
theorem dX12_root_27 : decode cX12_root 27 = .ok (.lload_n 0, 1) := by decide +kernel
theorem dX12_root_28 : decode cX12_root 28 = .ok (.lcmp, 1) := by decide +kernel
theorem dX12_root_29 : decode cX12_root 29 = .ok (.ifCond .gt 9, 3) := by decide +kernel
theorem dX12_root_32 : decode cX12_root 32 = .ok (.iload 4, 2) := by decide +kernel
theorem dX12_root_34 : decode cX12_root 34 = .ok (.istore_n 2, 1) := by decide +kernel
theorem dX12_root_35 : decode cX12_root 35 = .ok (.goto 8, 3) := by decide +kernel
theorem dX12_root_38 : decode cX12_root 38 = .ok (.iload 4, 2) := by decide +kernel
theorem dX12_root_40 : decode cX12_root 40 = .ok (.iconst 1, 1) := by decide +kernel
theorem dX12_root_41 : decode cX12_root 41 = .ok (.isub, 1) := by decide +kernel
theorem dX12_root_42 : decode cX12_root 42 = .ok (.istore_n 3, 1) := by decide +kernel
theorem dX12_root_43 : decode cX12_root 43 = .ok (.goto (-37), 3) := by decide +kernel
theorem dX12_root_46 : decode cX12_root 46 = .ok (.iload_n 2, 1) := by decide +kernel
theorem dX12_root_47 : decode cX12_root 47 = .ok (.ireturn, 1) := by decide +kernel
def fX12_root_l6 (p0 : Int64) (v2 : Int32) (v3 : Int32) : Option ((Int32 × Int32) ⊕ Int32) := if v2 ≤ v3 then some (.inr v3) else dlet (((v3 + v2) + 1) / 2 : Int32) (fun v6 => if 0 < (lg_cmp ((Int32.toInt64 v6) * (Int32.toInt64 v6)) p0) then dlet (v6 - 1 : Int32) (fun v7 => some (.inl (v7, v3))) else some (.inl (v2, v6)))
def fX12_root (m : dM) (p0 : Int64) : Option Int32 := (dlp (fun q => dP2 q (fun v2 v3 => fX12_root_l6 p0 v2 v3)) dFl (4000, 0)).bind (fun q => dP1 q (fun v8 => some v8))
set_option maxHeartbeats 4000000 in
set_option maxRecDepth 100000 in
theorem kX12_root (l : Launch) (g : dG) {m : dM} {p0 : Int64} {r0 : Int32} (h : fX12_root m p0 = some r0) : dMet l g yX12_root wsX12_root (dRm 0 0) [.long p0] m (dQI g r0 m) := by
  refine dof (cc := cX12_root) (maxL := 5) (ret := (some .int)) _ (plainFor_of_name (by decide)) rfl (Nat.le_of_ble_eq_true rfl) ?_
  intro p e s mth below meth c S hr hlk hE H ls hP hS hl
  have S : CallFix p mth c cX12_root 5 s _ wsX12_root RX12 := S
  have hl : lv_has ls 5 [(0, .long p0)] := hl
  obtain ⟨locs, hlocs⟩ : ∃ z : List Loc, z = [] := ⟨_, rfl⟩
  rw [← hlocs] at hS ⊢
  unfold fX12_root at h
  refine lv_iconst (v := 0) S.1 S.2.1 dX12_root_0 (by decide) ?_
  refine lv_istore_n (lv' := [(2, .int 0), (0, .long p0)]) S.1 S.2.1 dX12_root_1 rfl hl (by decide) rfl (fun ls hl => ?_)
  refine lv_sipush (v := 4000) S.1 S.2.1 dX12_root_2 (by decide) ?_
  refine lv_istore_n (lv' := [(3, .int 4000), (2, .int 0), (0, .long p0)]) S.1 S.2.1 dX12_root_5 rfl hl (by decide) rfl (fun ls hl => ?_)
  obtain ⟨qL1, hqL1, h⟩ := d_b h
  refine d_lp (Hd := fun q => match q with | (v2, v3) => ∀ (H : Heap) (locs : List Loc) (ls : Array Slot), va_P g.1 vwCl (dws g m) H → va_S (dA g) s.heap H locs → lv_has ls 5 [(3, .int v2), (2, .int v3), (0, .long p0)] → W p l e (headSpec wsX12_root (dRm 0 0)).room s mth (([.long p0] : List Value).toArray) below meth c H locs 0 0 (MQ below (dQI g r0 m) (([.long p0] : List Value).toArray) s 0 0 (dA g)) (F0 mth 6 ls [])) (K := fun q => (fun (v8 : _) => ∀ (H : Heap) (locs : List Loc) (ls : Array Slot), va_P g.1 vwCl (dws g m) H → va_S (dA g) s.heap H locs → lv_has ls 5 [(2, .int v8)] → W p l e (headSpec wsX12_root (dRm 0 0)).room s mth (([.long p0] : List Value).toArray) below meth c H locs 0 0 (MQ below (dQI g r0 m) (([.long p0] : List Value).toArray) s 0 0 (dA g)) (F0 mth 46 ls [])) q) ?_ dFl _ qL1 hqL1 ?_ H locs ls hP hS (lv_sub hl [0, 1, 2] rfl)
  · intro q o h hCL1 hEL1
    obtain ⟨v2, v3⟩ := q
    have h : fX12_root_l6 p0 v2 v3 = some o := h
    intro H locs ls hP hS hl
    have hP : va_P g.1 vwCl (dws g m) H := hP
    have hl : lv_has ls 5 [(3, .int v2), (2, .int v3), (0, .long p0)] := hl
    unfold fX12_root_l6 at h
    refine lv_iload_n S.1 S.2.1 dX12_root_6 rfl (lv_at hl 1 rfl) ?_
    refine lv_iload_n S.1 S.2.1 dX12_root_7 rfl (lv_at hl 0 rfl) ?_
    refine lv_icmp_ge (tgt := 46) S.1 S.2.1 dX12_root_8 (by decide) (fun cq => ?_) (fun cq => ?_)
    · have h := d_t cq h
      obtain rfl := Option.some.inj h
      exact hEL1 _ rfl H locs ls hP hS (lv_sub hl [1] rfl)
    · have h := d_f cq h
      refine lv_iload_n S.1 S.2.1 dX12_root_11 rfl (lv_at hl 1 rfl) ?_
      refine lv_iload_n S.1 S.2.1 dX12_root_12 rfl (lv_at hl 0 rfl) ?_
      refine lv_iadd S.1 S.2.1 dX12_root_13 ?_
      refine lv_iconst (v := 1) S.1 S.2.1 dX12_root_14 (by decide) ?_
      refine lv_iadd S.1 S.2.1 dX12_root_15 ?_
      refine lv_iconst (v := 2) S.1 S.2.1 dX12_root_16 (by decide) ?_
      refine lv_idiv S.1 S.2.1 dX12_root_17 (by decide) ?_
      refine lv_topi (fun v6 ev6 => ?_)
      have h := d_let ev6 h
      refine lv_istore (lv' := [(4, .int v6), (3, .int v2), (2, .int v3), (0, .long p0)]) S.1 S.2.1 dX12_root_18 hl (by decide) rfl (fun ls hl => ?_)
      refine lv_iload S.1 S.2.1 dX12_root_20 (lv_at hl 0 rfl) ?_
      refine lv_i2l S.1 S.2.1 dX12_root_22 rfl ?_
      refine lv_iload S.1 S.2.1 dX12_root_23 (lv_at hl 0 rfl) ?_
      refine lv_i2l S.1 S.2.1 dX12_root_25 rfl ?_
      refine lv_lmul S.1 S.2.1 dX12_root_26 ?_
      refine lv_lload_n S.1 S.2.1 dX12_root_27 rfl (lv_at hl 3 rfl) ?_
      refine W.lcmp S.1 S.2.1 dX12_root_28 ?_
      refine lv_if_gt (tgt := 38) S.1 S.2.1 dX12_root_29 (by decide) (fun cq => ?_) (fun cq => ?_)
      · have h := d_t cq h
        refine lv_iload S.1 S.2.1 dX12_root_38 (lv_at hl 0 rfl) ?_
        refine lv_iconst (v := 1) S.1 S.2.1 dX12_root_40 (by decide) ?_
        refine lv_isub S.1 S.2.1 dX12_root_41 ?_
        refine lv_topi (fun v7 ev7 => ?_)
        have h := d_let ev7 h
        refine lv_istore_n (lv' := [(3, .int v7), (4, .int v6), (2, .int v3), (0, .long p0)]) S.1 S.2.1 dX12_root_42 rfl hl (by decide) rfl (fun ls hl => ?_)
        refine lv_goto (tgt := 6) S.1 S.2.1 dX12_root_43 (by decide) ?_
        obtain rfl := Option.some.inj h
        exact hCL1 _ rfl H locs ls hP hS (lv_sub hl [0, 2, 3] rfl)
      · have h := d_f cq h
        refine lv_iload S.1 S.2.1 dX12_root_32 (lv_at hl 0 rfl) ?_
        refine lv_istore_n (lv' := [(2, .int v6), (4, .int v6), (3, .int v2), (0, .long p0)]) S.1 S.2.1 dX12_root_34 rfl hl (by decide) rfl (fun ls hl => ?_)
        refine lv_goto (tgt := 43) S.1 S.2.1 dX12_root_35 (by decide) ?_
        refine lv_goto (tgt := 6) S.1 S.2.1 dX12_root_43 (by decide) ?_
        obtain rfl := Option.some.inj h
        exact hCL1 _ rfl H locs ls hP hS (lv_sub hl [2, 0, 3] rfl)
  · obtain ⟨v8, rfl⟩ : ∃ z, z = qL1 := ⟨_, rfl⟩
    have h := d_p1 h
    intro H locs ls hP hS hl
    have hP : va_P g.1 vwCl (dws g m) H := hP
    have hl : lv_has ls 5 [(2, .int v8)] := hl
    refine lv_iload_n S.1 S.2.1 dX12_root_46 rfl (lv_at hl 0 rfl) ?_
    obtain rfl := Option.some.inj h
    exact dti S hr hlk hE hP hS rfl dX12_root_47
set_option maxRecDepth 20000 in
theorem ggX12_phase_X12_isPart : GoodIn wsX12_phase wsX12_isPart := goodIn_r _ [8, 9, 10, 11, 7, 12, 57, 58, 59, 60, 61, 62, 63, 64, 65, 66, 67, 68, 69, 70, 71, 72, 73, 74, 75, 76, 77, 78, 79, 80, 81, 82, 83, 84] (by decide +kernel) (by decide +kernel)
set_option maxRecDepth 20000 in
theorem gX12_phase_X12_isPart : GoodIn wsX12_phase (wsV RX12 152 RX12 yX12_isPart wsX12_isPart) := goodIn_app (goodIn_of _ (by decide +kernel)) ggX12_phase_X12_isPart
set_option maxRecDepth 20000 in
theorem ggX12_phase_X12_isIn : GoodIn wsX12_phase wsX12_isIn := goodIn_r _ [12] (by decide +kernel) (by decide +kernel)
set_option maxRecDepth 20000 in
theorem gX12_phase_X12_isIn : GoodIn wsX12_phase (va_wsS RX12 79 yX12_isIn wsX12_isIn) := goodIn_app (goodIn_of _ (by decide +kernel)) ggX12_phase_X12_isIn
set_option maxRecDepth 20000 in
theorem ggX12_phase_X12_marches : GoodIn wsX12_phase wsX12_marches := goodIn_r _ [16, 17, 18, 19, 57, 58, 59, 60, 61, 62, 63, 64, 65, 66, 67, 68, 69, 70, 71, 72, 73, 74, 75, 76, 77, 78, 79, 80, 81, 82, 83, 84] (by decide +kernel) (by decide +kernel)
set_option maxRecDepth 20000 in
theorem gX12_phase_X12_marches : GoodIn wsX12_phase (wsV RX12 93 RX12 yX12_marches wsX12_marches) := goodIn_app (goodIn_of _ (by decide +kernel)) ggX12_phase_X12_marches
set_option maxRecDepth 20000 in
theorem ggX12_phase_X12_xAt : GoodIn wsX12_phase wsX12_xAt := goodIn_r _ [23, 1, 24, 25, 26, 7, 27, 28, 29, 30, 31, 32, 33, 34, 35, 36, 37, 57, 58, 59, 60, 61, 62, 63, 64, 65, 66, 67, 68, 69, 70, 71, 72, 73, 74, 75, 76, 77, 78, 79, 80, 81, 82, 83, 84] (by decide +kernel) (by decide +kernel)
set_option maxRecDepth 20000 in
theorem gX12_phase_X12_xAt : GoodIn wsX12_phase (wsV RX12 155 RX12 yX12_xAt wsX12_xAt) := goodIn_app (goodIn_of _ (by decide +kernel)) ggX12_phase_X12_xAt
set_option maxRecDepth 20000 in
theorem ggX12_phase_X12_yAt : GoodIn wsX12_phase wsX12_yAt := goodIn_r _ [41, 1, 42, 43, 44, 7, 45, 46, 47, 48, 49, 50, 33, 34, 35, 36, 37, 57, 58, 59, 60, 61, 62, 63, 64, 65, 66, 67, 68, 69, 70, 71, 72, 73, 74, 75, 76, 77, 78, 79, 80, 81, 82, 83, 84] (by decide +kernel) (by decide +kernel)
set_option maxRecDepth 20000 in
theorem gX12_phase_X12_yAt : GoodIn wsX12_phase (wsV RX12 159 RX12 yX12_yAt wsX12_yAt) := goodIn_app (goodIn_of _ (by decide +kernel)) ggX12_phase_X12_yAt
set_option maxRecDepth 20000 in
theorem ggX12_phase_X12_square : GoodIn wsX12_phase wsX12_square := goodIn_r _ [53] (by decide +kernel) (by decide +kernel)
set_option maxRecDepth 20000 in
theorem gX12_phase_X12_square : GoodIn wsX12_phase (va_wsS RX12 124 yX12_square wsX12_square) := goodIn_app (goodIn_of _ (by decide +kernel)) ggX12_phase_X12_square
set_option maxRecDepth 20000 in
theorem ggX12_phase_X12_root : GoodIn wsX12_phase wsX12_root := goodIn_r _ [56] (by decide +kernel) (by decide +kernel)
set_option maxRecDepth 20000 in
theorem gX12_phase_X12_root : GoodIn wsX12_phase (va_wsS RX12 200 yX12_root wsX12_root) := goodIn_app (goodIn_of _ (by decide +kernel)) ggX12_phase_X12_root
theorem dX12_phase_0 : decode cX12_phase 0 = .ok (.aload_n 0, 1) := by decide +kernel
theorem dX12_phase_1 : decode cX12_phase 1 = .ok (.aload_n 0, 1) := by decide +kernel
theorem dX12_phase_2 : decode cX12_phase 2 = .ok (.iload_n 1, 1) := by decide +kernel
theorem dX12_phase_3 : decode cX12_phase 3 = .ok (.invokevirtual 152, 3) := by decide +kernel
theorem dX12_phase_6 : decode cX12_phase 6 = .ok (.ifCond .ne 7, 3) := by decide +kernel
theorem dX12_phase_9 : decode cX12_phase 9 = .ok (.iconst 1, 1) := by decide +kernel
theorem dX12_phase_10 : decode cX12_phase 10 = .ok (.goto 45, 3) := by decide +kernel
theorem dX12_phase_13 : decode cX12_phase 13 = .ok (.iload_n 2, 1) := by decide +kernel
theorem dX12_phase_14 : decode cX12_phase 14 = .ok (.iconst 0, 1) := by decide +kernel
theorem dX12_phase_15 : decode cX12_phase 15 = .ok (.aload_n 0, 1) := by decide +kernel
theorem dX12_phase_16 : decode cX12_phase 16 = .ok (.getfield 36, 3) := by decide +kernel
theorem dX12_phase_19 : decode cX12_phase 19 = .ok (.iload_n 1, 1) := by decide +kernel
theorem dX12_phase_20 : decode cX12_phase 20 = .ok (.iaload, 1) := by decide +kernel
theorem dX12_phase_21 : decode cX12_phase 21 = .ok (.invokestatic 79, 3) := by decide +kernel
theorem dX12_phase_24 : decode cX12_phase 24 = .ok (.ifCond .eq 26, 3) := by decide +kernel
theorem dX12_phase_27 : decode cX12_phase 27 = .ok (.iload_n 3, 1) := by decide +kernel
theorem dX12_phase_28 : decode cX12_phase 28 = .ok (.iconst 0, 1) := by decide +kernel
theorem dX12_phase_29 : decode cX12_phase 29 = .ok (.sipush 1600, 3) := by decide +kernel
theorem dX12_phase_32 : decode cX12_phase 32 = .ok (.invokestatic 79, 3) := by decide +kernel
theorem dX12_phase_35 : decode cX12_phase 35 = .ok (.ifCond .eq 15, 3) := by decide +kernel
theorem dX12_phase_38 : decode cX12_phase 38 = .ok (.iload 4, 2) := by decide +kernel
theorem dX12_phase_40 : decode cX12_phase 40 = .ok (.sipush (-1000), 3) := by decide +kernel
theorem dX12_phase_43 : decode cX12_phase 43 = .ok (.iconst (-1), 1) := by decide +kernel
theorem dX12_phase_44 : decode cX12_phase 44 = .ok (.invokestatic 79, 3) := by decide +kernel
theorem dX12_phase_47 : decode cX12_phase 47 = .ok (.ifCond .ne 7, 3) := by decide +kernel
theorem dX12_phase_50 : decode cX12_phase 50 = .ok (.iconst 2, 1) := by decide +kernel
theorem dX12_phase_51 : decode cX12_phase 51 = .ok (.goto 4, 3) := by decide +kernel
theorem dX12_phase_54 : decode cX12_phase 54 = .ok (.iconst 0, 1) := by decide +kernel
theorem dX12_phase_55 : decode cX12_phase 55 = .ok (.putfield 76, 3) := by decide +kernel
theorem dX12_phase_58 : decode cX12_phase 58 = .ok (.aload_n 0, 1) := by decide +kernel
theorem dX12_phase_59 : decode cX12_phase 59 = .ok (.getfield 76, 3) := by decide +kernel
theorem dX12_phase_62 : decode cX12_phase 62 = .ok (.ifCond .le 5, 3) := by decide +kernel
theorem dX12_phase_65 : decode cX12_phase 65 = .ok (.iconst 0, 1) := by decide +kernel
theorem dX12_phase_66 : decode cX12_phase 66 = .ok (.ireturn, 1) := by decide +kernel
theorem dX12_phase_67 : decode cX12_phase 67 = .ok (.iconst (-1), 1) := by decide +kernel
theorem dX12_phase_68 : decode cX12_phase 68 = .ok (.istore 5, 2) := by decide +kernel
theorem dX12_phase_70 : decode cX12_phase 70 = .ok (.iconst (-1), 1) := by decide +kernel
theorem dX12_phase_71 : decode cX12_phase 71 = .ok (.istore 6, 2) := by decide +kernel
theorem dX12_phase_73 : decode cX12_phase 73 = .ok (.iconst 0, 1) := by decide +kernel
theorem dX12_phase_74 : decode cX12_phase 74 = .ok (.istore 7, 2) := by decide +kernel
theorem dX12_phase_76 : decode cX12_phase 76 = .ok (.iload 7, 2) := by decide +kernel
theorem dX12_phase_78 : decode cX12_phase 78 = .ok (.aload_n 0, 1) := by decide +kernel
theorem dX12_phase_79 : decode cX12_phase 79 = .ok (.getfield 7, 3) := by decide +kernel
theorem dX12_phase_82 : decode cX12_phase 82 = .ok (.if_icmp .ge 88, 3) := by decide +kernel
theorem dX12_phase_85 : decode cX12_phase 85 = .ok (.aload_n 0, 1) := by decide +kernel
theorem dX12_phase_86 : decode cX12_phase 86 = .ok (.iload 7, 2) := by decide +kernel
theorem dX12_phase_88 : decode cX12_phase 88 = .ok (.invokevirtual 93, 3) := by decide +kernel
theorem dX12_phase_91 : decode cX12_phase 91 = .ok (.ifCond .eq 73, 3) := by decide +kernel
theorem dX12_phase_94 : decode cX12_phase 94 = .ok (.aload_n 0, 1) := by decide +kernel
theorem dX12_phase_95 : decode cX12_phase 95 = .ok (.iload_n 1, 1) := by decide +kernel
theorem dX12_phase_96 : decode cX12_phase 96 = .ok (.iload_n 2, 1) := by decide +kernel
theorem dX12_phase_97 : decode cX12_phase 97 = .ok (.iload 7, 2) := by decide +kernel
theorem dX12_phase_99 : decode cX12_phase 99 = .ok (.invokevirtual 155, 3) := by decide +kernel
theorem dX12_phase_102 : decode cX12_phase 102 = .ok (.iload_n 3, 1) := by decide +kernel
theorem dX12_phase_103 : decode cX12_phase 103 = .ok (.isub, 1) := by decide +kernel
theorem dX12_phase_104 : decode cX12_phase 104 = .ok (.aload_n 0, 1) := by decide +kernel
theorem dX12_phase_105 : decode cX12_phase 105 = .ok (.iload_n 1, 1) := by decide +kernel
theorem dX12_phase_106 : decode cX12_phase 106 = .ok (.iload_n 2, 1) := by decide +kernel
theorem dX12_phase_107 : decode cX12_phase 107 = .ok (.iload 7, 2) := by decide +kernel
theorem dX12_phase_109 : decode cX12_phase 109 = .ok (.invokevirtual 159, 3) := by decide +kernel
theorem dX12_phase_112 : decode cX12_phase 112 = .ok (.iload 4, 2) := by decide +kernel
theorem dX12_phase_114 : decode cX12_phase 114 = .ok (.isub, 1) := by decide +kernel
theorem dX12_phase_115 : decode cX12_phase 115 = .ok (.invokestatic 124, 3) := by decide +kernel
theorem dX12_phase_118 : decode cX12_phase 118 = .ok (.invokestatic 200, 3) := by decide +kernel
theorem dX12_phase_121 : decode cX12_phase 121 = .ok (.bipush 6, 2) := by decide +kernel
theorem dX12_phase_123 : decode cX12_phase 123 = .ok (.idiv, 1) := by decide +kernel
theorem dX12_phase_124 : decode cX12_phase 124 = .ok (.istore 8, 2) := by decide +kernel
theorem dX12_phase_126 : decode cX12_phase 126 = .ok (.iload 5, 2) := by decide +kernel
theorem dX12_phase_128 : decode cX12_phase 128 = .ok (.iconst (-1), 1) := by decide +kernel
theorem dX12_phase_129 : decode cX12_phase 129 = .ok (.if_icmp .eq 10, 3) := by decide +kernel
theorem dX12_phase_132 : decode cX12_phase 132 = .ok (.iload 8, 2) := by decide +kernel
theorem dX12_phase_134 : decode cX12_phase 134 = .ok (.iload 5, 2) := by decide +kernel
theorem dX12_phase_136 : decode cX12_phase 136 = .ok (.if_icmp .ge 8, 3) := by decide +kernel
theorem dX12_phase_139 : decode cX12_phase 139 = .ok (.iload 8, 2) := by decide +kernel
theorem dX12_phase_141 : decode cX12_phase 141 = .ok (.goto 5, 3) := by decide +kernel
theorem dX12_phase_144 : decode cX12_phase 144 = .ok (.iload 5, 2) := by decide +kernel
theorem dX12_phase_146 : decode cX12_phase 146 = .ok (.istore 5, 2) := by decide +kernel
theorem dX12_phase_148 : decode cX12_phase 148 = .ok (.iload 8, 2) := by decide +kernel
theorem dX12_phase_150 : decode cX12_phase 150 = .ok (.iload 6, 2) := by decide +kernel
theorem dX12_phase_152 : decode cX12_phase 152 = .ok (.if_icmp .le 8, 3) := by decide +kernel
theorem dX12_phase_155 : decode cX12_phase 155 = .ok (.iload 8, 2) := by decide +kernel
theorem dX12_phase_157 : decode cX12_phase 157 = .ok (.goto 5, 3) := by decide +kernel
theorem dX12_phase_160 : decode cX12_phase 160 = .ok (.iload 6, 2) := by decide +kernel
theorem dX12_phase_162 : decode cX12_phase 162 = .ok (.istore 6, 2) := by decide +kernel
theorem dX12_phase_164 : decode cX12_phase 164 = .ok (.iinc 7 1, 3) := by decide +kernel
theorem dX12_phase_167 : decode cX12_phase 167 = .ok (.goto (-91), 3) := by decide +kernel
theorem dX12_phase_170 : decode cX12_phase 170 = .ok (.iload 6, 2) := by decide +kernel
theorem dX12_phase_172 : decode cX12_phase 172 = .ok (.iload 5, 2) := by decide +kernel
theorem dX12_phase_174 : decode cX12_phase 174 = .ok (.isub, 1) := by decide +kernel
theorem dX12_phase_175 : decode cX12_phase 175 = .ok (.ireturn, 1) := by decide +kernel
def fX12_phase_l76 (p0 : Nat) (p1 : Int32) (p2 : Int32) (p3 : Int32) (p4 : Int32) (m11 : dM) (v13 : Int32) (v14 : Int32) (v15 : Int32) : Option ((Int32 × Int32 × Int32) ⊕ (Int32 × Int32)) := if (m11.1 p0 0) ≤ v13 then some (.inr (v15, v14)) else (fX12_marches m11 p0 v13).bind (fun v35 => if v35 = 0 then dlet (v13 + 1 : Int32) (fun v36 => some (.inl (v36, v14, v15))) else (fX12_xAt m11 p0 p1 p2 v13).bind (fun v38 => (fX12_yAt m11 p0 p1 p2 v13).bind (fun v40 => (fX12_square m11 (v38 - p3) (v40 - p4)).bind (fun v42 => (fX12_root m11 v42).bind (fun v44 => dlet (v44 / 6 : Int32) (fun v45 => if v15 = (-1) then if v45 ≤ v14 then dlet (v13 + 1 : Int32) (fun v46 => some (.inl (v46, v14, v45))) else dlet (v13 + 1 : Int32) (fun v47 => some (.inl (v47, v45, v45))) else if v15 ≤ v45 then if v45 ≤ v14 then dlet (v13 + 1 : Int32) (fun v48 => some (.inl (v48, v14, v15))) else dlet (v13 + 1 : Int32) (fun v49 => some (.inl (v49, v45, v15))) else if v45 ≤ v14 then dlet (v13 + 1 : Int32) (fun v50 => some (.inl (v50, v14, v45))) else dlet (v13 + 1 : Int32) (fun v51 => some (.inl (v51, v45, v45)))))))))
def fX12_phase (m : dM) (p0 : Nat) (p1 : Int32) (p2 : Int32) (p3 : Int32) (p4 : Int32) : Option (Int32 × dM) := dg (dkg p0 13) ((fX12_isPart m p0 p1).bind (fun v2 => if v2 = 0 then dlet (d1 m p0 25 1) (fun m55 => some (0, m55)) else dg (dIx p1 (dL 452)) ((fX12_isIn m p2 0 (m.1 452 (Int32.toNatClampNeg (p1)))).bind (fun v4 => if v4 = 0 then dlet (d1 m p0 25 2) (fun m5 => some (0, m5)) else (fX12_isIn m p3 0 1600).bind (fun v7 => if v7 = 0 then dlet (d1 m p0 25 2) (fun m8 => some (0, m8)) else (fX12_isIn m p4 (-1000) (-1)).bind (fun v10 => if v10 = 0 then dlet (d1 m p0 25 2) (fun m54 => some (0, m54)) else dlet (d1 m p0 25 0) (fun m11 => (dlp (fun q => dP3 q (fun v13 v14 v15 => fX12_phase_l76 p0 p1 p2 p3 p4 m11 v13 v14 v15)) dFl (0, (-1), (-1))).bind (fun q => dP2 q (fun v52 v53 => some (v53 - v52, m11))))))))))
set_option maxHeartbeats 4000000 in
set_option maxRecDepth 100000 in
theorem kX12_phase (l : Launch) (g : dG) {m : dM} {p0 : Nat} {p1 : Int32} {p2 : Int32} {p3 : Int32} {p4 : Int32} {r0 : Int32} {m0 : dM} (h : fX12_phase m p0 p1 p2 p3 p4 = some (r0, m0)) : dMet l g yX12_phase wsX12_phase (dRm 3 68) [.ref (dad g p0), .int p1, .int p2, .int p3, .int p4] m (dQI g r0 m0) := by
  refine dof (cc := cX12_phase) (maxL := 9) (ret := (some .int)) _ (plainFor_of_name (by decide)) rfl (Nat.le_of_ble_eq_true rfl) ?_
  intro p e s mth below meth c S hr hlk hE H ls hP hS hl
  have S : CallFix p mth c cX12_phase 9 s _ wsX12_phase RX12 := S
  have hl : lv_has ls 9 [(0, .ref (dad g p0)), (1, .int p1), (2, .int p2), (3, .int p3), (4, .int p4)] := hl
  obtain ⟨locs, hlocs⟩ : ∃ z : List Loc, z = [] := ⟨_, rfl⟩
  rw [← hlocs] at hS ⊢
  have in12 : ∀ w ∈ wsX120, w ∈ wsX12_phase := by decide +kernel
  unfold fX12_phase at h
  obtain ⟨k0, h⟩ := d_g h
  have k0 := d_k k0
  refine lv_aload_n S.1 S.2.1 dX12_phase_0 rfl (lv_at hl 0 rfl) ?_
  refine lv_aload_n S.1 S.2.1 dX12_phase_1 rfl (lv_at hl 0 rfl) ?_
  refine lv_iload_n S.1 S.2.1 dX12_phase_2 rfl (lv_at hl 1 rfl) ?_
  obtain ⟨v2, hc1, h⟩ := d_b h
  refine dri (va_runV (As := [.int p1]) (rest := [.ref (dad g p0)]) S (kX12_isPart l g hc1) (cwV 1 S.2.2.2.2 gX12_phase_X12_isPart rfl rfl rfl ynX12_isPart ⟨Nat.le_of_ble_eq_true rfl, Nat.le_of_ble_eq_true rfl⟩) (dpV hE hP hS (ci := 12) rfl (dat13 k0)) rfl rfl hl.1 rfl (lv_room (Nat.le_of_ble_eq_true rfl)) dX12_phase_3 ⟨Nat.le_of_ble_eq_true rfl, Nat.le_of_ble_eq_true rfl⟩) hS (fun H locs hP hS => ?_)
  refine lv_if_ne (tgt := 13) S.1 S.2.1 dX12_phase_6 (by decide) (fun cq => ?_) (fun cq => ?_)
  · have h := d_f cq h
    refine lv_iload_n S.1 S.2.1 dX12_phase_13 rfl (lv_at hl 2 rfl) ?_
    refine lv_iconst (v := 0) S.1 S.2.1 dX12_phase_14 (by decide) ?_
    refine lv_aload_n S.1 S.2.1 dX12_phase_15 rfl (lv_at hl 0 rfl) ?_
    refine dgf12_10 S in12 hE hP k0 (S.2.2.2.2 (.fieldLink RX12 36 "DrillFieldModel" "counts" "[I") (List.mem_of_getElem? (i := 1) rfl)) dX12_phase_16 ?_
    refine lv_iload_n S.1 S.2.1 dX12_phase_19 rfl (lv_at hl 1 rfl) ?_
    obtain ⟨hi, h⟩ := d_g h
    refine d_iald S hE hP dk_452 hi dX12_phase_20 ?_
    obtain ⟨v4, hc3, h⟩ := d_b h
    refine dri (va_runS (As := [.int p2, .int 0, .int (m.1 452 (Int32.toNatClampNeg (p1)))]) (rest := [.ref (dad g p0)]) S (kX12_isIn l g hc3) (va_cwS 3 S.2.2.2.2 gX12_phase_X12_isIn rfl rfl rfl ynX12_isIn ⟨Nat.le_of_ble_eq_true rfl, Nat.le_of_ble_eq_true rfl⟩) (dpS hE hP hS) rfl rfl hl.1 rfl (lv_room (Nat.le_of_ble_eq_true rfl)) dX12_phase_21 ⟨Nat.le_of_ble_eq_true rfl, Nat.le_of_ble_eq_true rfl⟩) hS (fun H locs hP hS => ?_)
    refine lv_if_eq (tgt := 50) S.1 S.2.1 dX12_phase_24 (by decide) (fun cq => ?_) (fun cq => ?_)
    · have h := d_t cq h
      refine lv_iconst (v := 2) S.1 S.2.1 dX12_phase_50 (by decide) ?_
      refine lv_goto (tgt := 55) S.1 S.2.1 dX12_phase_51 (by decide) ?_
      refine dpf12_25 S in12 hE hP hS k0 (S.2.2.2.2 (.fieldLink RX12 76 "DrillFieldModel" "thrown" "I") (List.mem_of_getElem? (i := 2) rfl)) dX12_phase_55 (fun H locs hP hS => ?_)
      obtain ⟨m5, em5⟩ : ∃ z : dM, z = d1 m p0 25 2 := ⟨_, rfl⟩
      have h := d_let em5 h
      rw [← em5] at hP
      refine lv_aload_n S.1 S.2.1 dX12_phase_58 rfl (lv_at hl 0 rfl) ?_
      refine dgf12_25 S in12 hE hP k0 (S.2.2.2.2 (.fieldLink RX12 76 "DrillFieldModel" "thrown" "I") (List.mem_of_getElem? (i := 2) rfl)) dX12_phase_59 ?_
      refine d_top (v := 2) (by rw [em5]; exact d1_get) ?_
      refine lv_if_le (tgt := 67) S.1 S.2.1 dX12_phase_62 (by decide) (fun cq => ?_) (fun cq => ?_)
      · exact absurd cq (by decide)
      · refine lv_iconst (v := 0) S.1 S.2.1 dX12_phase_65 (by decide) ?_
        obtain ⟨rfl, rfl⟩ := Prod.mk.inj (Option.some.inj h)
        exact dti S hr hlk hE hP hS rfl dX12_phase_66
    · have h := d_f cq h
      refine lv_iload_n S.1 S.2.1 dX12_phase_27 rfl (lv_at hl 3 rfl) ?_
      refine lv_iconst (v := 0) S.1 S.2.1 dX12_phase_28 (by decide) ?_
      refine lv_sipush (v := 1600) S.1 S.2.1 dX12_phase_29 (by decide) ?_
      obtain ⟨v7, hc6, h⟩ := d_b h
      refine dri (va_runS (As := [.int p3, .int 0, .int 1600]) (rest := [.ref (dad g p0)]) S (kX12_isIn l g hc6) (va_cwS 3 S.2.2.2.2 gX12_phase_X12_isIn rfl rfl rfl ynX12_isIn ⟨Nat.le_of_ble_eq_true rfl, Nat.le_of_ble_eq_true rfl⟩) (dpS hE hP hS) rfl rfl hl.1 rfl (lv_room (Nat.le_of_ble_eq_true rfl)) dX12_phase_32 ⟨Nat.le_of_ble_eq_true rfl, Nat.le_of_ble_eq_true rfl⟩) hS (fun H locs hP hS => ?_)
      refine lv_if_eq (tgt := 50) S.1 S.2.1 dX12_phase_35 (by decide) (fun cq => ?_) (fun cq => ?_)
      · have h := d_t cq h
        refine lv_iconst (v := 2) S.1 S.2.1 dX12_phase_50 (by decide) ?_
        refine lv_goto (tgt := 55) S.1 S.2.1 dX12_phase_51 (by decide) ?_
        refine dpf12_25 S in12 hE hP hS k0 (S.2.2.2.2 (.fieldLink RX12 76 "DrillFieldModel" "thrown" "I") (List.mem_of_getElem? (i := 2) rfl)) dX12_phase_55 (fun H locs hP hS => ?_)
        obtain ⟨m8, em8⟩ : ∃ z : dM, z = d1 m p0 25 2 := ⟨_, rfl⟩
        have h := d_let em8 h
        rw [← em8] at hP
        refine lv_aload_n S.1 S.2.1 dX12_phase_58 rfl (lv_at hl 0 rfl) ?_
        refine dgf12_25 S in12 hE hP k0 (S.2.2.2.2 (.fieldLink RX12 76 "DrillFieldModel" "thrown" "I") (List.mem_of_getElem? (i := 2) rfl)) dX12_phase_59 ?_
        refine d_top (v := 2) (by rw [em8]; exact d1_get) ?_
        refine lv_if_le (tgt := 67) S.1 S.2.1 dX12_phase_62 (by decide) (fun cq => ?_) (fun cq => ?_)
        · exact absurd cq (by decide)
        · refine lv_iconst (v := 0) S.1 S.2.1 dX12_phase_65 (by decide) ?_
          obtain ⟨rfl, rfl⟩ := Prod.mk.inj (Option.some.inj h)
          exact dti S hr hlk hE hP hS rfl dX12_phase_66
      · have h := d_f cq h
        refine lv_iload S.1 S.2.1 dX12_phase_38 (lv_at hl 4 rfl) ?_
        refine lv_sipush (v := (-1000)) S.1 S.2.1 dX12_phase_40 (by decide) ?_
        refine lv_iconst (v := (-1)) S.1 S.2.1 dX12_phase_43 (by decide) ?_
        obtain ⟨v10, hc9, h⟩ := d_b h
        refine dri (va_runS (As := [.int p4, .int (-1000), .int (-1)]) (rest := [.ref (dad g p0)]) S (kX12_isIn l g hc9) (va_cwS 3 S.2.2.2.2 gX12_phase_X12_isIn rfl rfl rfl ynX12_isIn ⟨Nat.le_of_ble_eq_true rfl, Nat.le_of_ble_eq_true rfl⟩) (dpS hE hP hS) rfl rfl hl.1 rfl (lv_room (Nat.le_of_ble_eq_true rfl)) dX12_phase_44 ⟨Nat.le_of_ble_eq_true rfl, Nat.le_of_ble_eq_true rfl⟩) hS (fun H locs hP hS => ?_)
        refine lv_if_ne (tgt := 54) S.1 S.2.1 dX12_phase_47 (by decide) (fun cq => ?_) (fun cq => ?_)
        · have h := d_f cq h
          refine lv_iconst (v := 0) S.1 S.2.1 dX12_phase_54 (by decide) ?_
          refine dpf12_25 S in12 hE hP hS k0 (S.2.2.2.2 (.fieldLink RX12 76 "DrillFieldModel" "thrown" "I") (List.mem_of_getElem? (i := 2) rfl)) dX12_phase_55 (fun H locs hP hS => ?_)
          obtain ⟨m11, em11⟩ : ∃ z : dM, z = d1 m p0 25 0 := ⟨_, rfl⟩
          have h := d_let em11 h
          rw [← em11] at hP
          refine lv_aload_n S.1 S.2.1 dX12_phase_58 rfl (lv_at hl 0 rfl) ?_
          refine dgf12_25 S in12 hE hP k0 (S.2.2.2.2 (.fieldLink RX12 76 "DrillFieldModel" "thrown" "I") (List.mem_of_getElem? (i := 2) rfl)) dX12_phase_59 ?_
          refine d_top (v := 0) (by rw [em11]; exact d1_get) ?_
          refine lv_if_le (tgt := 67) S.1 S.2.1 dX12_phase_62 (by decide) (fun cq => ?_) (fun cq => ?_)
          · refine lv_iconst (v := (-1)) S.1 S.2.1 dX12_phase_67 (by decide) ?_
            refine lv_istore (lv' := [(5, .int (-1)), (0, .ref (dad g p0)), (1, .int p1), (2, .int p2), (3, .int p3), (4, .int p4)]) S.1 S.2.1 dX12_phase_68 hl (by decide) rfl (fun ls hl => ?_)
            refine lv_iconst (v := (-1)) S.1 S.2.1 dX12_phase_70 (by decide) ?_
            refine lv_istore (lv' := [(6, .int (-1)), (5, .int (-1)), (0, .ref (dad g p0)), (1, .int p1), (2, .int p2), (3, .int p3), (4, .int p4)]) S.1 S.2.1 dX12_phase_71 hl (by decide) rfl (fun ls hl => ?_)
            refine lv_iconst (v := 0) S.1 S.2.1 dX12_phase_73 (by decide) ?_
            refine lv_istore (lv' := [(7, .int 0), (6, .int (-1)), (5, .int (-1)), (0, .ref (dad g p0)), (1, .int p1), (2, .int p2), (3, .int p3), (4, .int p4)]) S.1 S.2.1 dX12_phase_74 hl (by decide) rfl (fun ls hl => ?_)
            obtain ⟨qL12, hqL12, h⟩ := d_b h
            refine d_lp (Hd := fun q => match q with | (v13, v14, v15) => ∀ (H : Heap) (locs : List Loc) (ls : Array Slot), va_P g.1 vwCl (dws g m11) H → va_S (dA g) s.heap H locs → lv_has ls 9 [(7, .int v13), (6, .int v14), (5, .int v15), (0, .ref (dad g p0)), (1, .int p1), (2, .int p2), (3, .int p3), (4, .int p4)] → W p l e (headSpec wsX12_phase (dRm 3 68)).room s mth (([.ref (dad g p0), .int p1, .int p2, .int p3, .int p4] : List Value).toArray) below meth c H locs 0 0 (MQ below (dQI g r0 m0) (([.ref (dad g p0), .int p1, .int p2, .int p3, .int p4] : List Value).toArray) s 0 0 (dA g)) (F0 mth 76 ls [])) (K := fun q => match q with | (v52, v53) => ∀ (H : Heap) (locs : List Loc) (ls : Array Slot), va_P g.1 vwCl (dws g m11) H → va_S (dA g) s.heap H locs → lv_has ls 9 [(5, .int v52), (6, .int v53)] → W p l e (headSpec wsX12_phase (dRm 3 68)).room s mth (([.ref (dad g p0), .int p1, .int p2, .int p3, .int p4] : List Value).toArray) below meth c H locs 0 0 (MQ below (dQI g r0 m0) (([.ref (dad g p0), .int p1, .int p2, .int p3, .int p4] : List Value).toArray) s 0 0 (dA g)) (F0 mth 170 ls [])) ?_ dFl _ qL12 hqL12 ?_ H locs ls hP hS (lv_sub hl [0, 1, 2, 3, 4, 5, 6, 7] rfl)
            · intro q o h hCL12 hEL12
              obtain ⟨v13, v14, v15⟩ := q
              have h : fX12_phase_l76 p0 p1 p2 p3 p4 m11 v13 v14 v15 = some o := h
              intro H locs ls hP hS hl
              have hP : va_P g.1 vwCl (dws g m11) H := hP
              have hl : lv_has ls 9 [(7, .int v13), (6, .int v14), (5, .int v15), (0, .ref (dad g p0)), (1, .int p1), (2, .int p2), (3, .int p3), (4, .int p4)] := hl
              unfold fX12_phase_l76 at h
              refine lv_iload S.1 S.2.1 dX12_phase_76 (lv_at hl 0 rfl) ?_
              refine lv_aload_n S.1 S.2.1 dX12_phase_78 rfl (lv_at hl 3 rfl) ?_
              refine dgf12_0 S in12 hE hP k0 (S.2.2.2.2 (.fieldLink RX12 7 "DrillFieldModel" "dots" "I") (List.mem_of_getElem? (i := 3) rfl)) dX12_phase_79 ?_
              refine lv_icmp_ge (tgt := 170) S.1 S.2.1 dX12_phase_82 (by decide) (fun cq => ?_) (fun cq => ?_)
              · have h := d_t cq h
                obtain rfl := Option.some.inj h
                exact hEL12 _ rfl H locs ls hP hS (lv_sub hl [2, 1] rfl)
              · have h := d_f cq h
                refine lv_aload_n S.1 S.2.1 dX12_phase_85 rfl (lv_at hl 3 rfl) ?_
                refine lv_iload S.1 S.2.1 dX12_phase_86 (lv_at hl 0 rfl) ?_
                obtain ⟨v35, hc34, h⟩ := d_b h
                refine dri (va_runV (As := [.int v13]) (rest := []) S (kX12_marches l g hc34) (cwV 1 S.2.2.2.2 gX12_phase_X12_marches rfl rfl rfl ynX12_marches ⟨Nat.le_of_ble_eq_true rfl, Nat.le_of_ble_eq_true rfl⟩) (dpV hE hP hS (ci := 12) rfl (dat13 k0)) rfl rfl hl.1 rfl (lv_room (Nat.le_of_ble_eq_true rfl)) dX12_phase_88 ⟨Nat.le_of_ble_eq_true rfl, Nat.le_of_ble_eq_true rfl⟩) hS (fun H locs hP hS => ?_)
                refine lv_if_eq (tgt := 164) S.1 S.2.1 dX12_phase_91 (by decide) (fun cq => ?_) (fun cq => ?_)
                · have h := d_t cq h
                  obtain ⟨v36, ev36⟩ : ∃ z : Int32, z = v13 + 1 := ⟨_, rfl⟩
                  have h := d_let ev36 h
                  refine lv_iinc (v := v36) (lv' := [(7, .int v36), (6, .int v14), (5, .int v15), (0, .ref (dad g p0)), (1, .int p1), (2, .int p2), (3, .int p3), (4, .int p4)]) S.1 S.2.1 dX12_phase_164 hl (k := 0) rfl (by rw [ev36]; rfl) (by decide) rfl (fun ls hl => ?_)
                  refine lv_goto (tgt := 76) S.1 S.2.1 dX12_phase_167 (by decide) ?_
                  obtain rfl := Option.some.inj h
                  exact hCL12 _ rfl H locs ls hP hS (lv_sub hl [0, 1, 2, 3, 4, 5, 6, 7] rfl)
                · have h := d_f cq h
                  refine lv_aload_n S.1 S.2.1 dX12_phase_94 rfl (lv_at hl 3 rfl) ?_
                  refine lv_iload_n S.1 S.2.1 dX12_phase_95 rfl (lv_at hl 4 rfl) ?_
                  refine lv_iload_n S.1 S.2.1 dX12_phase_96 rfl (lv_at hl 5 rfl) ?_
                  refine lv_iload S.1 S.2.1 dX12_phase_97 (lv_at hl 0 rfl) ?_
                  obtain ⟨v38, hc37, h⟩ := d_b h
                  refine dri (va_runV (As := [.int p1, .int p2, .int v13]) (rest := []) S (kX12_xAt l g hc37) (cwV 3 S.2.2.2.2 gX12_phase_X12_xAt rfl rfl rfl ynX12_xAt ⟨Nat.le_of_ble_eq_true rfl, Nat.le_of_ble_eq_true rfl⟩) (dpV hE hP hS (ci := 12) rfl (dat13 k0)) rfl rfl hl.1 rfl (lv_room (Nat.le_of_ble_eq_true rfl)) dX12_phase_99 ⟨Nat.le_of_ble_eq_true rfl, Nat.le_of_ble_eq_true rfl⟩) hS (fun H locs hP hS => ?_)
                  refine lv_iload_n S.1 S.2.1 dX12_phase_102 rfl (lv_at hl 6 rfl) ?_
                  refine lv_isub S.1 S.2.1 dX12_phase_103 ?_
                  refine lv_aload_n S.1 S.2.1 dX12_phase_104 rfl (lv_at hl 3 rfl) ?_
                  refine lv_iload_n S.1 S.2.1 dX12_phase_105 rfl (lv_at hl 4 rfl) ?_
                  refine lv_iload_n S.1 S.2.1 dX12_phase_106 rfl (lv_at hl 5 rfl) ?_
                  refine lv_iload S.1 S.2.1 dX12_phase_107 (lv_at hl 0 rfl) ?_
                  obtain ⟨v40, hc39, h⟩ := d_b h
                  refine dri (va_runV (As := [.int p1, .int p2, .int v13]) (rest := [.int (v38 - p3)]) S (kX12_yAt l g hc39) (cwV 3 S.2.2.2.2 gX12_phase_X12_yAt rfl rfl rfl ynX12_yAt ⟨Nat.le_of_ble_eq_true rfl, Nat.le_of_ble_eq_true rfl⟩) (dpV hE hP hS (ci := 12) rfl (dat13 k0)) rfl rfl hl.1 rfl (lv_room (Nat.le_of_ble_eq_true rfl)) dX12_phase_109 ⟨Nat.le_of_ble_eq_true rfl, Nat.le_of_ble_eq_true rfl⟩) hS (fun H locs hP hS => ?_)
                  refine lv_iload S.1 S.2.1 dX12_phase_112 (lv_at hl 7 rfl) ?_
                  refine lv_isub S.1 S.2.1 dX12_phase_114 ?_
                  obtain ⟨v42, hc41, h⟩ := d_b h
                  refine drj (va_runS (As := [.int (v38 - p3), .int (v40 - p4)]) (rest := []) S (kX12_square l g hc41) (va_cwS 2 S.2.2.2.2 gX12_phase_X12_square rfl rfl rfl ynX12_square ⟨Nat.le_of_ble_eq_true rfl, Nat.le_of_ble_eq_true rfl⟩) (dpS hE hP hS) rfl rfl hl.1 rfl (lv_room (Nat.le_of_ble_eq_true rfl)) dX12_phase_115 ⟨Nat.le_of_ble_eq_true rfl, Nat.le_of_ble_eq_true rfl⟩) hS (fun H locs hP hS => ?_)
                  obtain ⟨v44, hc43, h⟩ := d_b h
                  refine dri (va_runS (As := [.long v42]) (rest := []) S (kX12_root l g hc43) (va_cwS 1 S.2.2.2.2 gX12_phase_X12_root rfl rfl rfl ynX12_root ⟨Nat.le_of_ble_eq_true rfl, Nat.le_of_ble_eq_true rfl⟩) (dpS hE hP hS) rfl rfl hl.1 rfl (lv_room (Nat.le_of_ble_eq_true rfl)) dX12_phase_118 ⟨Nat.le_of_ble_eq_true rfl, Nat.le_of_ble_eq_true rfl⟩) hS (fun H locs hP hS => ?_)
                  refine lv_bipush (v := 6) S.1 S.2.1 dX12_phase_121 (by decide) ?_
                  refine lv_idiv S.1 S.2.1 dX12_phase_123 (by decide) ?_
                  refine lv_topi (fun v45 ev45 => ?_)
                  have h := d_let ev45 h
                  refine lv_istore (lv' := [(8, .int v45), (7, .int v13), (6, .int v14), (5, .int v15), (0, .ref (dad g p0)), (1, .int p1), (2, .int p2), (3, .int p3), (4, .int p4)]) S.1 S.2.1 dX12_phase_124 hl (by decide) rfl (fun ls hl => ?_)
                  refine lv_iload S.1 S.2.1 dX12_phase_126 (lv_at hl 3 rfl) ?_
                  refine lv_iconst (v := (-1)) S.1 S.2.1 dX12_phase_128 (by decide) ?_
                  refine lv_icmp_eq (tgt := 139) S.1 S.2.1 dX12_phase_129 (by decide) (fun cq => ?_) (fun cq => ?_)
                  · have h := d_t cq h
                    refine lv_iload S.1 S.2.1 dX12_phase_139 (lv_at hl 0 rfl) ?_
                    refine lv_goto (tgt := 146) S.1 S.2.1 dX12_phase_141 (by decide) ?_
                    refine lv_istore (lv' := [(5, .int v45), (8, .int v45), (7, .int v13), (6, .int v14), (0, .ref (dad g p0)), (1, .int p1), (2, .int p2), (3, .int p3), (4, .int p4)]) S.1 S.2.1 dX12_phase_146 hl (by decide) rfl (fun ls hl => ?_)
                    refine lv_iload S.1 S.2.1 dX12_phase_148 (lv_at hl 1 rfl) ?_
                    refine lv_iload S.1 S.2.1 dX12_phase_150 (lv_at hl 3 rfl) ?_
                    refine lv_icmp_le (tgt := 160) S.1 S.2.1 dX12_phase_152 (by decide) (fun cq => ?_) (fun cq => ?_)
                    · have h := d_t cq h
                      refine lv_iload S.1 S.2.1 dX12_phase_160 (lv_at hl 3 rfl) ?_
                      refine lv_istore (lv' := [(6, .int v14), (5, .int v45), (8, .int v45), (7, .int v13), (0, .ref (dad g p0)), (1, .int p1), (2, .int p2), (3, .int p3), (4, .int p4)]) S.1 S.2.1 dX12_phase_162 hl (by decide) rfl (fun ls hl => ?_)
                      obtain ⟨v46, ev46⟩ : ∃ z : Int32, z = v13 + 1 := ⟨_, rfl⟩
                      have h := d_let ev46 h
                      refine lv_iinc (v := v46) (lv' := [(7, .int v46), (6, .int v14), (5, .int v45), (8, .int v45), (0, .ref (dad g p0)), (1, .int p1), (2, .int p2), (3, .int p3), (4, .int p4)]) S.1 S.2.1 dX12_phase_164 hl (k := 3) rfl (by rw [ev46]; rfl) (by decide) rfl (fun ls hl => ?_)
                      refine lv_goto (tgt := 76) S.1 S.2.1 dX12_phase_167 (by decide) ?_
                      obtain rfl := Option.some.inj h
                      exact hCL12 _ rfl H locs ls hP hS (lv_sub hl [0, 1, 2, 4, 5, 6, 7, 8] rfl)
                    · have h := d_f cq h
                      refine lv_iload S.1 S.2.1 dX12_phase_155 (lv_at hl 1 rfl) ?_
                      refine lv_goto (tgt := 162) S.1 S.2.1 dX12_phase_157 (by decide) ?_
                      refine lv_istore (lv' := [(6, .int v45), (5, .int v45), (8, .int v45), (7, .int v13), (0, .ref (dad g p0)), (1, .int p1), (2, .int p2), (3, .int p3), (4, .int p4)]) S.1 S.2.1 dX12_phase_162 hl (by decide) rfl (fun ls hl => ?_)
                      obtain ⟨v47, ev47⟩ : ∃ z : Int32, z = v13 + 1 := ⟨_, rfl⟩
                      have h := d_let ev47 h
                      refine lv_iinc (v := v47) (lv' := [(7, .int v47), (6, .int v45), (5, .int v45), (8, .int v45), (0, .ref (dad g p0)), (1, .int p1), (2, .int p2), (3, .int p3), (4, .int p4)]) S.1 S.2.1 dX12_phase_164 hl (k := 3) rfl (by rw [ev47]; rfl) (by decide) rfl (fun ls hl => ?_)
                      refine lv_goto (tgt := 76) S.1 S.2.1 dX12_phase_167 (by decide) ?_
                      obtain rfl := Option.some.inj h
                      exact hCL12 _ rfl H locs ls hP hS (lv_sub hl [0, 1, 2, 4, 5, 6, 7, 8] rfl)
                  · have h := d_f cq h
                    refine lv_iload S.1 S.2.1 dX12_phase_132 (lv_at hl 0 rfl) ?_
                    refine lv_iload S.1 S.2.1 dX12_phase_134 (lv_at hl 3 rfl) ?_
                    refine lv_icmp_ge (tgt := 144) S.1 S.2.1 dX12_phase_136 (by decide) (fun cq => ?_) (fun cq => ?_)
                    · have h := d_t cq h
                      refine lv_iload S.1 S.2.1 dX12_phase_144 (lv_at hl 3 rfl) ?_
                      refine lv_istore (lv' := [(5, .int v15), (8, .int v45), (7, .int v13), (6, .int v14), (0, .ref (dad g p0)), (1, .int p1), (2, .int p2), (3, .int p3), (4, .int p4)]) S.1 S.2.1 dX12_phase_146 hl (by decide) rfl (fun ls hl => ?_)
                      refine lv_iload S.1 S.2.1 dX12_phase_148 (lv_at hl 1 rfl) ?_
                      refine lv_iload S.1 S.2.1 dX12_phase_150 (lv_at hl 3 rfl) ?_
                      refine lv_icmp_le (tgt := 160) S.1 S.2.1 dX12_phase_152 (by decide) (fun cq => ?_) (fun cq => ?_)
                      · have h := d_t cq h
                        refine lv_iload S.1 S.2.1 dX12_phase_160 (lv_at hl 3 rfl) ?_
                        refine lv_istore (lv' := [(6, .int v14), (5, .int v15), (8, .int v45), (7, .int v13), (0, .ref (dad g p0)), (1, .int p1), (2, .int p2), (3, .int p3), (4, .int p4)]) S.1 S.2.1 dX12_phase_162 hl (by decide) rfl (fun ls hl => ?_)
                        obtain ⟨v48, ev48⟩ : ∃ z : Int32, z = v13 + 1 := ⟨_, rfl⟩
                        have h := d_let ev48 h
                        refine lv_iinc (v := v48) (lv' := [(7, .int v48), (6, .int v14), (5, .int v15), (8, .int v45), (0, .ref (dad g p0)), (1, .int p1), (2, .int p2), (3, .int p3), (4, .int p4)]) S.1 S.2.1 dX12_phase_164 hl (k := 3) rfl (by rw [ev48]; rfl) (by decide) rfl (fun ls hl => ?_)
                        refine lv_goto (tgt := 76) S.1 S.2.1 dX12_phase_167 (by decide) ?_
                        obtain rfl := Option.some.inj h
                        exact hCL12 _ rfl H locs ls hP hS (lv_sub hl [0, 1, 2, 4, 5, 6, 7, 8] rfl)
                      · have h := d_f cq h
                        refine lv_iload S.1 S.2.1 dX12_phase_155 (lv_at hl 1 rfl) ?_
                        refine lv_goto (tgt := 162) S.1 S.2.1 dX12_phase_157 (by decide) ?_
                        refine lv_istore (lv' := [(6, .int v45), (5, .int v15), (8, .int v45), (7, .int v13), (0, .ref (dad g p0)), (1, .int p1), (2, .int p2), (3, .int p3), (4, .int p4)]) S.1 S.2.1 dX12_phase_162 hl (by decide) rfl (fun ls hl => ?_)
                        obtain ⟨v49, ev49⟩ : ∃ z : Int32, z = v13 + 1 := ⟨_, rfl⟩
                        have h := d_let ev49 h
                        refine lv_iinc (v := v49) (lv' := [(7, .int v49), (6, .int v45), (5, .int v15), (8, .int v45), (0, .ref (dad g p0)), (1, .int p1), (2, .int p2), (3, .int p3), (4, .int p4)]) S.1 S.2.1 dX12_phase_164 hl (k := 3) rfl (by rw [ev49]; rfl) (by decide) rfl (fun ls hl => ?_)
                        refine lv_goto (tgt := 76) S.1 S.2.1 dX12_phase_167 (by decide) ?_
                        obtain rfl := Option.some.inj h
                        exact hCL12 _ rfl H locs ls hP hS (lv_sub hl [0, 1, 2, 4, 5, 6, 7, 8] rfl)
                    · have h := d_f cq h
                      refine lv_iload S.1 S.2.1 dX12_phase_139 (lv_at hl 0 rfl) ?_
                      refine lv_goto (tgt := 146) S.1 S.2.1 dX12_phase_141 (by decide) ?_
                      refine lv_istore (lv' := [(5, .int v45), (8, .int v45), (7, .int v13), (6, .int v14), (0, .ref (dad g p0)), (1, .int p1), (2, .int p2), (3, .int p3), (4, .int p4)]) S.1 S.2.1 dX12_phase_146 hl (by decide) rfl (fun ls hl => ?_)
                      refine lv_iload S.1 S.2.1 dX12_phase_148 (lv_at hl 1 rfl) ?_
                      refine lv_iload S.1 S.2.1 dX12_phase_150 (lv_at hl 3 rfl) ?_
                      refine lv_icmp_le (tgt := 160) S.1 S.2.1 dX12_phase_152 (by decide) (fun cq => ?_) (fun cq => ?_)
                      · have h := d_t cq h
                        refine lv_iload S.1 S.2.1 dX12_phase_160 (lv_at hl 3 rfl) ?_
                        refine lv_istore (lv' := [(6, .int v14), (5, .int v45), (8, .int v45), (7, .int v13), (0, .ref (dad g p0)), (1, .int p1), (2, .int p2), (3, .int p3), (4, .int p4)]) S.1 S.2.1 dX12_phase_162 hl (by decide) rfl (fun ls hl => ?_)
                        obtain ⟨v50, ev50⟩ : ∃ z : Int32, z = v13 + 1 := ⟨_, rfl⟩
                        have h := d_let ev50 h
                        refine lv_iinc (v := v50) (lv' := [(7, .int v50), (6, .int v14), (5, .int v45), (8, .int v45), (0, .ref (dad g p0)), (1, .int p1), (2, .int p2), (3, .int p3), (4, .int p4)]) S.1 S.2.1 dX12_phase_164 hl (k := 3) rfl (by rw [ev50]; rfl) (by decide) rfl (fun ls hl => ?_)
                        refine lv_goto (tgt := 76) S.1 S.2.1 dX12_phase_167 (by decide) ?_
                        obtain rfl := Option.some.inj h
                        exact hCL12 _ rfl H locs ls hP hS (lv_sub hl [0, 1, 2, 4, 5, 6, 7, 8] rfl)
                      · have h := d_f cq h
                        refine lv_iload S.1 S.2.1 dX12_phase_155 (lv_at hl 1 rfl) ?_
                        refine lv_goto (tgt := 162) S.1 S.2.1 dX12_phase_157 (by decide) ?_
                        refine lv_istore (lv' := [(6, .int v45), (5, .int v45), (8, .int v45), (7, .int v13), (0, .ref (dad g p0)), (1, .int p1), (2, .int p2), (3, .int p3), (4, .int p4)]) S.1 S.2.1 dX12_phase_162 hl (by decide) rfl (fun ls hl => ?_)
                        obtain ⟨v51, ev51⟩ : ∃ z : Int32, z = v13 + 1 := ⟨_, rfl⟩
                        have h := d_let ev51 h
                        refine lv_iinc (v := v51) (lv' := [(7, .int v51), (6, .int v45), (5, .int v45), (8, .int v45), (0, .ref (dad g p0)), (1, .int p1), (2, .int p2), (3, .int p3), (4, .int p4)]) S.1 S.2.1 dX12_phase_164 hl (k := 3) rfl (by rw [ev51]; rfl) (by decide) rfl (fun ls hl => ?_)
                        refine lv_goto (tgt := 76) S.1 S.2.1 dX12_phase_167 (by decide) ?_
                        obtain rfl := Option.some.inj h
                        exact hCL12 _ rfl H locs ls hP hS (lv_sub hl [0, 1, 2, 4, 5, 6, 7, 8] rfl)
            · obtain ⟨v52, v53⟩ := qL12
              have h := d_p2 h
              intro H locs ls hP hS hl
              have hP : va_P g.1 vwCl (dws g m11) H := hP
              have hl : lv_has ls 9 [(5, .int v52), (6, .int v53)] := hl
              refine lv_iload S.1 S.2.1 dX12_phase_170 (lv_at hl 1 rfl) ?_
              refine lv_iload S.1 S.2.1 dX12_phase_172 (lv_at hl 0 rfl) ?_
              refine lv_isub S.1 S.2.1 dX12_phase_174 ?_
              obtain ⟨rfl, rfl⟩ := Prod.mk.inj (Option.some.inj h)
              exact dti S hr hlk hE hP hS rfl dX12_phase_175
          · exact absurd (by decide) cq
        · have h := d_t cq h
          refine lv_iconst (v := 2) S.1 S.2.1 dX12_phase_50 (by decide) ?_
          refine lv_goto (tgt := 55) S.1 S.2.1 dX12_phase_51 (by decide) ?_
          refine dpf12_25 S in12 hE hP hS k0 (S.2.2.2.2 (.fieldLink RX12 76 "DrillFieldModel" "thrown" "I") (List.mem_of_getElem? (i := 2) rfl)) dX12_phase_55 (fun H locs hP hS => ?_)
          obtain ⟨m54, em54⟩ : ∃ z : dM, z = d1 m p0 25 2 := ⟨_, rfl⟩
          have h := d_let em54 h
          rw [← em54] at hP
          refine lv_aload_n S.1 S.2.1 dX12_phase_58 rfl (lv_at hl 0 rfl) ?_
          refine dgf12_25 S in12 hE hP k0 (S.2.2.2.2 (.fieldLink RX12 76 "DrillFieldModel" "thrown" "I") (List.mem_of_getElem? (i := 2) rfl)) dX12_phase_59 ?_
          refine d_top (v := 2) (by rw [em54]; exact d1_get) ?_
          refine lv_if_le (tgt := 67) S.1 S.2.1 dX12_phase_62 (by decide) (fun cq => ?_) (fun cq => ?_)
          · exact absurd cq (by decide)
          · refine lv_iconst (v := 0) S.1 S.2.1 dX12_phase_65 (by decide) ?_
            obtain ⟨rfl, rfl⟩ := Prod.mk.inj (Option.some.inj h)
            exact dti S hr hlk hE hP hS rfl dX12_phase_66
  · have h := d_t cq h
    refine lv_iconst (v := 1) S.1 S.2.1 dX12_phase_9 (by decide) ?_
    refine lv_goto (tgt := 55) S.1 S.2.1 dX12_phase_10 (by decide) ?_
    refine dpf12_25 S in12 hE hP hS k0 (S.2.2.2.2 (.fieldLink RX12 76 "DrillFieldModel" "thrown" "I") (List.mem_of_getElem? (i := 2) rfl)) dX12_phase_55 (fun H locs hP hS => ?_)
    obtain ⟨m55, em55⟩ : ∃ z : dM, z = d1 m p0 25 1 := ⟨_, rfl⟩
    have h := d_let em55 h
    rw [← em55] at hP
    refine lv_aload_n S.1 S.2.1 dX12_phase_58 rfl (lv_at hl 0 rfl) ?_
    refine dgf12_25 S in12 hE hP k0 (S.2.2.2.2 (.fieldLink RX12 76 "DrillFieldModel" "thrown" "I") (List.mem_of_getElem? (i := 2) rfl)) dX12_phase_59 ?_
    refine d_top (v := 1) (by rw [em55]; exact d1_get) ?_
    refine lv_if_le (tgt := 67) S.1 S.2.1 dX12_phase_62 (by decide) (fun cq => ?_) (fun cq => ?_)
    · exact absurd cq (by decide)
    · refine lv_iconst (v := 0) S.1 S.2.1 dX12_phase_65 (by decide) ?_
      obtain ⟨rfl, rfl⟩ := Prod.mk.inj (Option.some.inj h)
      exact dti S hr hlk hE hP hS rfl dX12_phase_66
set_option maxRecDepth 20000 in
theorem ggX12_place_X12_isPart : GoodIn wsX12_place wsX12_isPart := goodIn_r _ [7, 8, 9, 10, 6, 11, 17, 18, 19, 20, 21, 22, 23, 24, 25, 26, 27, 28, 29, 30, 31, 32, 33, 34, 35, 36, 37, 38, 39, 40, 41, 42, 43, 44] (by decide +kernel) (by decide +kernel)
set_option maxRecDepth 20000 in
theorem gX12_place_X12_isPart : GoodIn wsX12_place (wsV RX12 152 RX12 yX12_isPart wsX12_isPart) := goodIn_app (goodIn_of _ (by decide +kernel)) ggX12_place_X12_isPart
set_option maxRecDepth 20000 in
theorem ggX12_place_X12_isDot : GoodIn wsX12_place wsX12_isDot := goodIn_r _ [15, 16, 9, 10, 6, 11, 17, 18, 19, 20, 21, 22, 23, 24, 25, 26, 27, 28, 29, 30, 31, 32, 33, 34, 35, 36, 37, 38, 39, 40, 41, 42, 43, 44] (by decide +kernel) (by decide +kernel)
set_option maxRecDepth 20000 in
theorem gX12_place_X12_isDot : GoodIn wsX12_place (wsV RX12 89 RX12 yX12_isDot wsX12_isDot) := goodIn_app (goodIn_of _ (by decide +kernel)) ggX12_place_X12_isDot
theorem dX12_place_0 : decode cX12_place 0 = .ok (.aload_n 0, 1) := by decide +kernel
theorem dX12_place_1 : decode cX12_place 1 = .ok (.aload_n 0, 1) := by decide +kernel
theorem dX12_place_2 : decode cX12_place 2 = .ok (.iload_n 1, 1) := by decide +kernel
theorem dX12_place_3 : decode cX12_place 3 = .ok (.invokevirtual 152, 3) := by decide +kernel
theorem dX12_place_6 : decode cX12_place 6 = .ok (.ifCond .eq 15, 3) := by decide +kernel
theorem dX12_place_9 : decode cX12_place 9 = .ok (.aload_n 0, 1) := by decide +kernel
theorem dX12_place_10 : decode cX12_place 10 = .ok (.iload_n 2, 1) := by decide +kernel
theorem dX12_place_11 : decode cX12_place 11 = .ok (.invokevirtual 89, 3) := by decide +kernel
theorem dX12_place_14 : decode cX12_place 14 = .ok (.ifCond .eq 7, 3) := by decide +kernel
theorem dX12_place_17 : decode cX12_place 17 = .ok (.iconst 0, 1) := by decide +kernel
theorem dX12_place_18 : decode cX12_place 18 = .ok (.goto 4, 3) := by decide +kernel
theorem dX12_place_21 : decode cX12_place 21 = .ok (.iconst 1, 1) := by decide +kernel
theorem dX12_place_22 : decode cX12_place 22 = .ok (.putfield 76, 3) := by decide +kernel
theorem dX12_place_25 : decode cX12_place 25 = .ok (.aload_n 0, 1) := by decide +kernel
theorem dX12_place_26 : decode cX12_place 26 = .ok (.getfield 76, 3) := by decide +kernel
theorem dX12_place_29 : decode cX12_place 29 = .ok (.ifCond .le 7, 3) := by decide +kernel
theorem dX12_place_32 : decode cX12_place 32 = .ok (.iconst 0, 1) := by decide +kernel
theorem dX12_place_33 : decode cX12_place 33 = .ok (.goto 14, 3) := by decide +kernel
theorem dX12_place_36 : decode cX12_place 36 = .ok (.aload_n 0, 1) := by decide +kernel
theorem dX12_place_37 : decode cX12_place 37 = .ok (.getfield 45, 3) := by decide +kernel
theorem dX12_place_40 : decode cX12_place 40 = .ok (.bipush 10, 2) := by decide +kernel
theorem dX12_place_42 : decode cX12_place 42 = .ok (.iload_n 1, 1) := by decide +kernel
theorem dX12_place_43 : decode cX12_place 43 = .ok (.imul, 1) := by decide +kernel
theorem dX12_place_44 : decode cX12_place 44 = .ok (.iload_n 2, 1) := by decide +kernel
theorem dX12_place_45 : decode cX12_place 45 = .ok (.iadd, 1) := by decide +kernel
theorem dX12_place_46 : decode cX12_place 46 = .ok (.iaload, 1) := by decide +kernel
theorem dX12_place_47 : decode cX12_place 47 = .ok (.ireturn, 1) := by decide +kernel
def fX12_place (m : dM) (p0 : Nat) (p1 : Int32) (p2 : Int32) : Option (Int32 × dM) := dg (dkg p0 13) ((fX12_isPart m p0 p1).bind (fun v2 => if v2 = 0 then dlet (d1 m p0 25 1) (fun m3 => some (0, m3)) else (fX12_isDot m p0 p2).bind (fun v5 => if v5 = 0 then dlet (d1 m p0 25 1) (fun m6 => some (0, m6)) else dlet (d1 m p0 25 0) (fun m7 => dg (dIx ((10 * p1) + p2) (dL 455)) (some (m7.1 455 (Int32.toNatClampNeg ((10 * p1) + p2)), m7))))))
set_option maxHeartbeats 4000000 in
set_option maxRecDepth 100000 in
theorem kX12_place (l : Launch) (g : dG) {m : dM} {p0 : Nat} {p1 : Int32} {p2 : Int32} {r0 : Int32} {m0 : dM} (h : fX12_place m p0 p1 p2 = some (r0, m0)) : dMet l g yX12_place wsX12_place (dRm 2 43) [.ref (dad g p0), .int p1, .int p2] m (dQI g r0 m0) := by
  refine dof (cc := cX12_place) (maxL := 3) (ret := (some .int)) _ (plainFor_of_name (by decide)) rfl (Nat.le_of_ble_eq_true rfl) ?_
  intro p e s mth below meth c S hr hlk hE H ls hP hS hl
  have S : CallFix p mth c cX12_place 3 s _ wsX12_place RX12 := S
  have hl : lv_has ls 3 [(0, .ref (dad g p0)), (1, .int p1), (2, .int p2)] := hl
  obtain ⟨locs, hlocs⟩ : ∃ z : List Loc, z = [] := ⟨_, rfl⟩
  rw [← hlocs] at hS ⊢
  have in12 : ∀ w ∈ wsX120, w ∈ wsX12_place := by decide +kernel
  unfold fX12_place at h
  obtain ⟨k0, h⟩ := d_g h
  have k0 := d_k k0
  refine lv_aload_n S.1 S.2.1 dX12_place_0 rfl (lv_at hl 0 rfl) ?_
  refine lv_aload_n S.1 S.2.1 dX12_place_1 rfl (lv_at hl 0 rfl) ?_
  refine lv_iload_n S.1 S.2.1 dX12_place_2 rfl (lv_at hl 1 rfl) ?_
  obtain ⟨v2, hc1, h⟩ := d_b h
  refine dri (va_runV (As := [.int p1]) (rest := [.ref (dad g p0)]) S (kX12_isPart l g hc1) (cwV 1 S.2.2.2.2 gX12_place_X12_isPart rfl rfl rfl ynX12_isPart ⟨Nat.le_of_ble_eq_true rfl, Nat.le_of_ble_eq_true rfl⟩) (dpV hE hP hS (ci := 12) rfl (dat13 k0)) rfl rfl hl.1 rfl (lv_room (Nat.le_of_ble_eq_true rfl)) dX12_place_3 ⟨Nat.le_of_ble_eq_true rfl, Nat.le_of_ble_eq_true rfl⟩) hS (fun H locs hP hS => ?_)
  refine lv_if_eq (tgt := 21) S.1 S.2.1 dX12_place_6 (by decide) (fun cq => ?_) (fun cq => ?_)
  · have h := d_t cq h
    refine lv_iconst (v := 1) S.1 S.2.1 dX12_place_21 (by decide) ?_
    refine dpf12_25 S in12 hE hP hS k0 (S.2.2.2.2 (.fieldLink RX12 76 "DrillFieldModel" "thrown" "I") (List.mem_of_getElem? (i := 1) rfl)) dX12_place_22 (fun H locs hP hS => ?_)
    obtain ⟨m3, em3⟩ : ∃ z : dM, z = d1 m p0 25 1 := ⟨_, rfl⟩
    have h := d_let em3 h
    rw [← em3] at hP
    refine lv_aload_n S.1 S.2.1 dX12_place_25 rfl (lv_at hl 0 rfl) ?_
    refine dgf12_25 S in12 hE hP k0 (S.2.2.2.2 (.fieldLink RX12 76 "DrillFieldModel" "thrown" "I") (List.mem_of_getElem? (i := 1) rfl)) dX12_place_26 ?_
    refine d_top (v := 1) (by rw [em3]; exact d1_get) ?_
    refine lv_if_le (tgt := 36) S.1 S.2.1 dX12_place_29 (by decide) (fun cq => ?_) (fun cq => ?_)
    · exact absurd cq (by decide)
    · refine lv_iconst (v := 0) S.1 S.2.1 dX12_place_32 (by decide) ?_
      refine lv_goto (tgt := 47) S.1 S.2.1 dX12_place_33 (by decide) ?_
      obtain ⟨rfl, rfl⟩ := Prod.mk.inj (Option.some.inj h)
      exact dti S hr hlk hE hP hS rfl dX12_place_47
  · have h := d_f cq h
    refine lv_aload_n S.1 S.2.1 dX12_place_9 rfl (lv_at hl 0 rfl) ?_
    refine lv_iload_n S.1 S.2.1 dX12_place_10 rfl (lv_at hl 2 rfl) ?_
    obtain ⟨v5, hc4, h⟩ := d_b h
    refine dri (va_runV (As := [.int p2]) (rest := [.ref (dad g p0)]) S (kX12_isDot l g hc4) (cwV 1 S.2.2.2.2 gX12_place_X12_isDot rfl rfl rfl ynX12_isDot ⟨Nat.le_of_ble_eq_true rfl, Nat.le_of_ble_eq_true rfl⟩) (dpV hE hP hS (ci := 12) rfl (dat13 k0)) rfl rfl hl.1 rfl (lv_room (Nat.le_of_ble_eq_true rfl)) dX12_place_11 ⟨Nat.le_of_ble_eq_true rfl, Nat.le_of_ble_eq_true rfl⟩) hS (fun H locs hP hS => ?_)
    refine lv_if_eq (tgt := 21) S.1 S.2.1 dX12_place_14 (by decide) (fun cq => ?_) (fun cq => ?_)
    · have h := d_t cq h
      refine lv_iconst (v := 1) S.1 S.2.1 dX12_place_21 (by decide) ?_
      refine dpf12_25 S in12 hE hP hS k0 (S.2.2.2.2 (.fieldLink RX12 76 "DrillFieldModel" "thrown" "I") (List.mem_of_getElem? (i := 1) rfl)) dX12_place_22 (fun H locs hP hS => ?_)
      obtain ⟨m6, em6⟩ : ∃ z : dM, z = d1 m p0 25 1 := ⟨_, rfl⟩
      have h := d_let em6 h
      rw [← em6] at hP
      refine lv_aload_n S.1 S.2.1 dX12_place_25 rfl (lv_at hl 0 rfl) ?_
      refine dgf12_25 S in12 hE hP k0 (S.2.2.2.2 (.fieldLink RX12 76 "DrillFieldModel" "thrown" "I") (List.mem_of_getElem? (i := 1) rfl)) dX12_place_26 ?_
      refine d_top (v := 1) (by rw [em6]; exact d1_get) ?_
      refine lv_if_le (tgt := 36) S.1 S.2.1 dX12_place_29 (by decide) (fun cq => ?_) (fun cq => ?_)
      · exact absurd cq (by decide)
      · refine lv_iconst (v := 0) S.1 S.2.1 dX12_place_32 (by decide) ?_
        refine lv_goto (tgt := 47) S.1 S.2.1 dX12_place_33 (by decide) ?_
        obtain ⟨rfl, rfl⟩ := Prod.mk.inj (Option.some.inj h)
        exact dti S hr hlk hE hP hS rfl dX12_place_47
    · have h := d_f cq h
      refine lv_iconst (v := 0) S.1 S.2.1 dX12_place_17 (by decide) ?_
      refine lv_goto (tgt := 22) S.1 S.2.1 dX12_place_18 (by decide) ?_
      refine dpf12_25 S in12 hE hP hS k0 (S.2.2.2.2 (.fieldLink RX12 76 "DrillFieldModel" "thrown" "I") (List.mem_of_getElem? (i := 1) rfl)) dX12_place_22 (fun H locs hP hS => ?_)
      obtain ⟨m7, em7⟩ : ∃ z : dM, z = d1 m p0 25 0 := ⟨_, rfl⟩
      have h := d_let em7 h
      rw [← em7] at hP
      refine lv_aload_n S.1 S.2.1 dX12_place_25 rfl (lv_at hl 0 rfl) ?_
      refine dgf12_25 S in12 hE hP k0 (S.2.2.2.2 (.fieldLink RX12 76 "DrillFieldModel" "thrown" "I") (List.mem_of_getElem? (i := 1) rfl)) dX12_place_26 ?_
      refine d_top (v := 0) (by rw [em7]; exact d1_get) ?_
      refine lv_if_le (tgt := 36) S.1 S.2.1 dX12_place_29 (by decide) (fun cq => ?_) (fun cq => ?_)
      · refine lv_aload_n S.1 S.2.1 dX12_place_36 rfl (lv_at hl 0 rfl) ?_
        refine dgf12_13 S in12 hE hP k0 (S.2.2.2.2 (.fieldLink RX12 45 "DrillFieldModel" "goes" "[I") (List.mem_of_getElem? (i := 2) rfl)) dX12_place_37 ?_
        refine lv_bipush (v := 10) S.1 S.2.1 dX12_place_40 (by decide) ?_
        refine lv_iload_n S.1 S.2.1 dX12_place_42 rfl (lv_at hl 1 rfl) ?_
        refine lv_imul S.1 S.2.1 dX12_place_43 ?_
        refine lv_iload_n S.1 S.2.1 dX12_place_44 rfl (lv_at hl 2 rfl) ?_
        refine lv_iadd S.1 S.2.1 dX12_place_45 ?_
        obtain ⟨hi, h⟩ := d_g h
        refine d_iald S hE hP dk_455 hi dX12_place_46 ?_
        obtain ⟨rfl, rfl⟩ := Prod.mk.inj (Option.some.inj h)
        exact dti S hr hlk hE hP hS rfl dX12_place_47
      · exact absurd (by decide) cq
set_option maxRecDepth 20000 in
theorem ggX12_publish_X12_changes : GoodIn wsX12_publish wsX12_changes := goodIn_r _ [8, 9, 10, 11, 7, 12, 2, 3, 13, 14, 15, 16, 17, 18, 19, 20, 21, 22, 23, 24, 25, 26, 27, 28, 29, 30, 31, 32, 33, 34, 35, 36, 37, 38, 39, 40, 41, 42, 43, 44, 45, 46, 47, 48, 49, 50, 51, 52, 53, 54, 55, 56, 57, 58, 59, 60, 61, 62, 63, 64, 65, 66, 67, 68, 69, 70, 71, 72] (by decide +kernel) (by decide +kernel)
set_option maxRecDepth 20000 in
theorem gX12_publish_X12_changes : GoodIn wsX12_publish (wsV RX12 213 RX12 yX12_changes wsX12_changes) := goodIn_app (goodIn_of _ (by decide +kernel)) ggX12_publish_X12_changes
set_option maxRecDepth 20000 in
theorem ggX12_publish_X12_isPart : GoodIn wsX12_publish wsX12_isPart := goodIn_r _ [16, 17, 18, 19, 7, 20, 45, 46, 47, 48, 49, 50, 51, 52, 53, 54, 55, 56, 57, 58, 59, 60, 61, 62, 63, 64, 65, 66, 67, 68, 69, 70, 71, 72] (by decide +kernel) (by decide +kernel)
set_option maxRecDepth 20000 in
theorem gX12_publish_X12_isPart : GoodIn wsX12_publish (wsV RX12 152 RX12 yX12_isPart wsX12_isPart) := goodIn_app (goodIn_of _ (by decide +kernel)) ggX12_publish_X12_isPart
set_option maxRecDepth 20000 in
theorem ggX12_publish_X12_isDot : GoodIn wsX12_publish wsX12_isDot := goodIn_r _ [24, 25, 18, 19, 7, 20, 45, 46, 47, 48, 49, 50, 51, 52, 53, 54, 55, 56, 57, 58, 59, 60, 61, 62, 63, 64, 65, 66, 67, 68, 69, 70, 71, 72] (by decide +kernel) (by decide +kernel)
set_option maxRecDepth 20000 in
theorem gX12_publish_X12_isDot : GoodIn wsX12_publish (wsV RX12 89 RX12 yX12_isDot wsX12_isDot) := goodIn_app (goodIn_of _ (by decide +kernel)) ggX12_publish_X12_isDot
set_option maxRecDepth 20000 in
theorem ggX12_publish_X12_says : GoodIn wsX12_publish wsX12_says := goodIn_r _ [29, 30, 31, 32, 7, 33, 34, 35, 36, 37, 38, 39, 40, 41, 42, 43, 44, 45, 46, 47, 48, 49, 50, 51, 52, 53, 54, 55, 56, 57, 58, 59, 60, 61, 62, 63, 64, 65, 66, 67, 68, 69, 70, 71, 72] (by decide +kernel) (by decide +kernel)
set_option maxRecDepth 20000 in
theorem gX12_publish_X12_says : GoodIn wsX12_publish (wsV RX12 207 RX12 yX12_says wsX12_says) := goodIn_app (goodIn_of _ (by decide +kernel)) ggX12_publish_X12_says
theorem dX12_publish_0 : decode cX12_publish 0 = .ok (.aload_n 0, 1) := by decide +kernel
theorem dX12_publish_1 : decode cX12_publish 1 = .ok (.iconst 0, 1) := by decide +kernel
theorem dX12_publish_2 : decode cX12_publish 2 = .ok (.putfield 76, 3) := by decide +kernel
theorem dX12_publish_5 : decode cX12_publish 5 = .ok (.aload_n 0, 1) := by decide +kernel
theorem dX12_publish_6 : decode cX12_publish 6 = .ok (.invokevirtual 213, 3) := by decide +kernel
theorem dX12_publish_9 : decode cX12_publish 9 = .ok (.istore_n 1, 1) := by decide +kernel
theorem dX12_publish_10 : decode cX12_publish 10 = .ok (.iconst 0, 1) := by decide +kernel
theorem dX12_publish_11 : decode cX12_publish 11 = .ok (.istore_n 2, 1) := by decide +kernel
theorem dX12_publish_12 : decode cX12_publish 12 = .ok (.iload_n 2, 1) := by decide +kernel
theorem dX12_publish_13 : decode cX12_publish 13 = .ok (.bipush 12, 2) := by decide +kernel
theorem dX12_publish_15 : decode cX12_publish 15 = .ok (.if_icmp .ge 104, 3) := by decide +kernel
theorem dX12_publish_18 : decode cX12_publish 18 = .ok (.iconst 0, 1) := by decide +kernel
theorem dX12_publish_19 : decode cX12_publish 19 = .ok (.istore_n 3, 1) := by decide +kernel
theorem dX12_publish_20 : decode cX12_publish 20 = .ok (.iload_n 3, 1) := by decide +kernel
theorem dX12_publish_21 : decode cX12_publish 21 = .ok (.bipush 10, 2) := by decide +kernel
theorem dX12_publish_23 : decode cX12_publish 23 = .ok (.if_icmp .ge 90, 3) := by decide +kernel
theorem dX12_publish_26 : decode cX12_publish 26 = .ok (.bipush 10, 2) := by decide +kernel
theorem dX12_publish_28 : decode cX12_publish 28 = .ok (.iload_n 2, 1) := by decide +kernel
theorem dX12_publish_29 : decode cX12_publish 29 = .ok (.imul, 1) := by decide +kernel
theorem dX12_publish_30 : decode cX12_publish 30 = .ok (.iload_n 3, 1) := by decide +kernel
theorem dX12_publish_31 : decode cX12_publish 31 = .ok (.iadd, 1) := by decide +kernel
theorem dX12_publish_32 : decode cX12_publish 32 = .ok (.istore 4, 2) := by decide +kernel
theorem dX12_publish_34 : decode cX12_publish 34 = .ok (.aload_n 0, 1) := by decide +kernel
theorem dX12_publish_35 : decode cX12_publish 35 = .ok (.getfield 55, 3) := by decide +kernel
theorem dX12_publish_38 : decode cX12_publish 38 = .ok (.iload 4, 2) := by decide +kernel
theorem dX12_publish_40 : decode cX12_publish 40 = .ok (.aload_n 0, 1) := by decide +kernel
theorem dX12_publish_41 : decode cX12_publish 41 = .ok (.iload_n 2, 1) := by decide +kernel
theorem dX12_publish_42 : decode cX12_publish 42 = .ok (.invokevirtual 152, 3) := by decide +kernel
theorem dX12_publish_45 : decode cX12_publish 45 = .ok (.ifCond .eq 15, 3) := by decide +kernel
theorem dX12_publish_48 : decode cX12_publish 48 = .ok (.aload_n 0, 1) := by decide +kernel
theorem dX12_publish_49 : decode cX12_publish 49 = .ok (.iload_n 3, 1) := by decide +kernel
theorem dX12_publish_50 : decode cX12_publish 50 = .ok (.invokevirtual 89, 3) := by decide +kernel
theorem dX12_publish_53 : decode cX12_publish 53 = .ok (.ifCond .eq 7, 3) := by decide +kernel
theorem dX12_publish_56 : decode cX12_publish 56 = .ok (.iconst 1, 1) := by decide +kernel
theorem dX12_publish_57 : decode cX12_publish 57 = .ok (.goto 4, 3) := by decide +kernel
theorem dX12_publish_60 : decode cX12_publish 60 = .ok (.iconst 0, 1) := by decide +kernel
theorem dX12_publish_61 : decode cX12_publish 61 = .ok (.bastore, 1) := by decide +kernel
theorem dX12_publish_62 : decode cX12_publish 62 = .ok (.iconst 0, 1) := by decide +kernel
theorem dX12_publish_63 : decode cX12_publish 63 = .ok (.istore 5, 2) := by decide +kernel
theorem dX12_publish_65 : decode cX12_publish 65 = .ok (.iload 5, 2) := by decide +kernel
theorem dX12_publish_67 : decode cX12_publish 67 = .ok (.iconst 4, 1) := by decide +kernel
theorem dX12_publish_68 : decode cX12_publish 68 = .ok (.if_icmp .ge 39, 3) := by decide +kernel
theorem dX12_publish_71 : decode cX12_publish 71 = .ok (.aload_n 0, 1) := by decide +kernel
theorem dX12_publish_72 : decode cX12_publish 72 = .ok (.getfield 55, 3) := by decide +kernel
theorem dX12_publish_75 : decode cX12_publish 75 = .ok (.iload 4, 2) := by decide +kernel
theorem dX12_publish_77 : decode cX12_publish 77 = .ok (.baload, 1) := by decide +kernel
theorem dX12_publish_78 : decode cX12_publish 78 = .ok (.ifCond .eq 29, 3) := by decide +kernel
theorem dX12_publish_81 : decode cX12_publish 81 = .ok (.aload_n 0, 1) := by decide +kernel
theorem dX12_publish_82 : decode cX12_publish 82 = .ok (.getfield 52, 3) := by decide +kernel
theorem dX12_publish_85 : decode cX12_publish 85 = .ok (.iconst 4, 1) := by decide +kernel
theorem dX12_publish_86 : decode cX12_publish 86 = .ok (.iload 4, 2) := by decide +kernel
theorem dX12_publish_88 : decode cX12_publish 88 = .ok (.imul, 1) := by decide +kernel
theorem dX12_publish_89 : decode cX12_publish 89 = .ok (.iload 5, 2) := by decide +kernel
theorem dX12_publish_91 : decode cX12_publish 91 = .ok (.iadd, 1) := by decide +kernel
theorem dX12_publish_92 : decode cX12_publish 92 = .ok (.aload_n 0, 1) := by decide +kernel
theorem dX12_publish_93 : decode cX12_publish 93 = .ok (.iload_n 2, 1) := by decide +kernel
theorem dX12_publish_94 : decode cX12_publish 94 = .ok (.iload_n 3, 1) := by decide +kernel
theorem dX12_publish_95 : decode cX12_publish 95 = .ok (.iload 5, 2) := by decide +kernel
theorem dX12_publish_97 : decode cX12_publish 97 = .ok (.invokevirtual 207, 3) := by decide +kernel
theorem dX12_publish_100 : decode cX12_publish 100 = .ok (.iastore, 1) := by decide +kernel
theorem dX12_publish_101 : decode cX12_publish 101 = .ok (.iinc 5 1, 3) := by decide +kernel
theorem dX12_publish_104 : decode cX12_publish 104 = .ok (.goto (-39), 3) := by decide +kernel
theorem dX12_publish_107 : decode cX12_publish 107 = .ok (.iinc 3 1, 3) := by decide +kernel
theorem dX12_publish_110 : decode cX12_publish 110 = .ok (.goto (-90), 3) := by decide +kernel
theorem dX12_publish_113 : decode cX12_publish 113 = .ok (.iinc 2 1, 3) := by decide +kernel
theorem dX12_publish_116 : decode cX12_publish 116 = .ok (.goto (-104), 3) := by decide +kernel
theorem dX12_publish_119 : decode cX12_publish 119 = .ok (.iload_n 1, 1) := by decide +kernel
theorem dX12_publish_120 : decode cX12_publish 120 = .ok (.ireturn, 1) := by decide +kernel
def fX12_publish_l65 (p0 : Nat) (v5 : Int32) (v107 : Int32) (v156 : Int32) (v161 : Int32) (m162 : dM) : Option ((Int32 × dM) ⊕ dM) := if 4 ≤ v161 then some (.inr m162) else dg (dIx v156 (dL 458)) (if (m162.1 458 (Int32.toNatClampNeg (v156))) = 0 then some (.inr m162) else (fX12_says m162 p0 v5 v107 v161).bind (fun v168 => dg (dIx ((4 * v156) + v161) (dL 457)) (dlet (d1 m162 457 (Int32.toNatClampNeg ((4 * v156) + v161)) v168) (fun m169 => dlet (v161 + 1 : Int32) (fun v170 => some (.inl (v170, m169)))))))
def fX12_publish_l65_2 (p0 : Nat) (v5 : Int32) (v107 : Int32) (v156 : Int32) (v177 : Int32) (m178 : dM) : Option ((Int32 × dM) ⊕ dM) := if 4 ≤ v177 then some (.inr m178) else dg (dIx v156 (dL 458)) (if (m178.1 458 (Int32.toNatClampNeg (v156))) = 0 then some (.inr m178) else (fX12_says m178 p0 v5 v107 v177).bind (fun v184 => dg (dIx ((4 * v156) + v177) (dL 457)) (dlet (d1 m178 457 (Int32.toNatClampNeg ((4 * v156) + v177)) v184) (fun m185 => dlet (v177 + 1 : Int32) (fun v186 => some (.inl (v186, m185)))))))
def fX12_publish_l65_3 (p0 : Nat) (v5 : Int32) (v107 : Int32) (v156 : Int32) (v191 : Int32) (m192 : dM) : Option ((Int32 × dM) ⊕ dM) := if 4 ≤ v191 then some (.inr m192) else dg (dIx v156 (dL 458)) (if (m192.1 458 (Int32.toNatClampNeg (v156))) = 0 then some (.inr m192) else (fX12_says m192 p0 v5 v107 v191).bind (fun v198 => dg (dIx ((4 * v156) + v191) (dL 457)) (dlet (d1 m192 457 (Int32.toNatClampNeg ((4 * v156) + v191)) v198) (fun m199 => dlet (v191 + 1 : Int32) (fun v200 => some (.inl (v200, m199)))))))
def fX12_publish_l20 (p0 : Nat) (v5 : Int32) (v107 : Int32) (m108 : dM) : Option ((Int32 × dM) ⊕ dM) := if 10 ≤ v107 then some (.inr m108) else dlet ((10 * v5) + v107 : Int32) (fun v156 => (fX12_isPart m108 p0 v5).bind (fun v158 => if v158 = 0 then dg (dIx v156 (dL 458)) (dlet (d1 m108 458 (Int32.toNatClampNeg (v156)) 0) (fun m159 => (dlp (fun q => dP2 q (fun v161 m162 => fX12_publish_l65 p0 v5 v107 v156 v161 m162)) dFl (0, m159)).bind (fun q => dP1 q (fun m171 => dlet (v107 + 1 : Int32) (fun v172 => some (.inl (v172, m171))))))) else (fX12_isDot m108 p0 v107).bind (fun v174 => if v174 = 0 then dg (dIx v156 (dL 458)) (dlet (d1 m108 458 (Int32.toNatClampNeg (v156)) 0) (fun m175 => (dlp (fun q => dP2 q (fun v177 m178 => fX12_publish_l65_2 p0 v5 v107 v156 v177 m178)) dFl (0, m175)).bind (fun q => dP1 q (fun m187 => dlet (v107 + 1 : Int32) (fun v188 => some (.inl (v188, m187))))))) else dg (dIx v156 (dL 458)) (dlet (d1 m108 458 (Int32.toNatClampNeg (v156)) 1) (fun m189 => (dlp (fun q => dP2 q (fun v191 m192 => fX12_publish_l65_3 p0 v5 v107 v156 v191 m192)) dFl (0, m189)).bind (fun q => dP1 q (fun m201 => dlet (v107 + 1 : Int32) (fun v202 => some (.inl (v202, m201))))))))))
def fX12_publish_l12 (p0 : Nat) (v5 : Int32) (m6 : dM) : Option ((Int32 × dM) ⊕ dM) := if 12 ≤ v5 then some (.inr m6) else (dlp (fun q => dP2 q (fun v107 m108 => fX12_publish_l20 p0 v5 v107 m108)) dFl (0, m6)).bind (fun q => dP1 q (fun m203 => dlet (v5 + 1 : Int32) (fun v204 => some (.inl (v204, m203)))))
def fX12_publish (m : dM) (p0 : Nat) : Option (Int32 × dM) := dg (dkg p0 13) (dlet (d1 m p0 25 0) (fun m1 => (fX12_changes m1 p0).bind (fun v3 => (dlp (fun q => dP2 q (fun v5 m6 => fX12_publish_l12 p0 v5 m6)) dFl (0, m1)).bind (fun q => dP1 q (fun m205 => some (v3, m205))))))
set_option maxHeartbeats 4000000 in
set_option maxRecDepth 100000 in
theorem kX12_publish (l : Launch) (g : dG) {m : dM} {p0 : Nat} {r0 : Int32} {m0 : dM} (h : fX12_publish m p0 = some (r0, m0)) : dMet l g yX12_publish wsX12_publish (dRm 4 99) [.ref (dad g p0)] m (dQI g r0 m0) := by
  refine dof (cc := cX12_publish) (maxL := 6) (ret := (some .int)) _ (plainFor_of_name (by decide)) rfl (Nat.le_of_ble_eq_true rfl) ?_
  intro p e s mth below meth c S hr hlk hE H ls hP hS hl
  have S : CallFix p mth c cX12_publish 6 s _ wsX12_publish RX12 := S
  have hl : lv_has ls 6 [(0, .ref (dad g p0))] := hl
  obtain ⟨locs, hlocs⟩ : ∃ z : List Loc, z = [] := ⟨_, rfl⟩
  rw [← hlocs] at hS ⊢
  have in12 : ∀ w ∈ wsX120, w ∈ wsX12_publish := by decide +kernel
  unfold fX12_publish at h
  obtain ⟨k0, h⟩ := d_g h
  have k0 := d_k k0
  refine lv_aload_n S.1 S.2.1 dX12_publish_0 rfl (lv_at hl 0 rfl) ?_
  refine lv_iconst (v := 0) S.1 S.2.1 dX12_publish_1 (by decide) ?_
  refine dpf12_25 S in12 hE hP hS k0 (S.2.2.2.2 (.fieldLink RX12 76 "DrillFieldModel" "thrown" "I") (List.mem_of_getElem? (i := 1) rfl)) dX12_publish_2 (fun H locs hP hS => ?_)
  obtain ⟨m1, em1⟩ : ∃ z : dM, z = d1 m p0 25 0 := ⟨_, rfl⟩
  have h := d_let em1 h
  rw [← em1] at hP
  refine lv_aload_n S.1 S.2.1 dX12_publish_5 rfl (lv_at hl 0 rfl) ?_
  obtain ⟨v3, hc2, h⟩ := d_b h
  refine dri (va_runV (As := []) (rest := []) S (kX12_changes l g hc2) (cwV 0 S.2.2.2.2 gX12_publish_X12_changes rfl rfl rfl ynX12_changes ⟨Nat.le_of_ble_eq_true rfl, Nat.le_of_ble_eq_true rfl⟩) (dpV hE hP hS (ci := 12) rfl (dat13 k0)) rfl rfl hl.1 rfl (lv_room (Nat.le_of_ble_eq_true rfl)) dX12_publish_6 ⟨Nat.le_of_ble_eq_true rfl, Nat.le_of_ble_eq_true rfl⟩) hS (fun H locs hP hS => ?_)
  refine lv_istore_n (lv' := [(1, .int v3), (0, .ref (dad g p0))]) S.1 S.2.1 dX12_publish_9 rfl hl (by decide) rfl (fun ls hl => ?_)
  refine lv_iconst (v := 0) S.1 S.2.1 dX12_publish_10 (by decide) ?_
  refine lv_istore_n (lv' := [(2, .int 0), (1, .int v3), (0, .ref (dad g p0))]) S.1 S.2.1 dX12_publish_11 rfl hl (by decide) rfl (fun ls hl => ?_)
  obtain ⟨qL4, hqL4, h⟩ := d_b h
  refine d_lp (Hd := fun q => match q with | (v5, m6) => ∀ (H : Heap) (locs : List Loc) (ls : Array Slot), va_P g.1 vwCl (dws g m6) H → va_S (dA g) s.heap H locs → lv_has ls 6 [(2, .int v5), (1, .int v3), (0, .ref (dad g p0))] → W p l e (headSpec wsX12_publish (dRm 4 99)).room s mth (([.ref (dad g p0)] : List Value).toArray) below meth c H locs 0 0 (MQ below (dQI g r0 m0) (([.ref (dad g p0)] : List Value).toArray) s 0 0 (dA g)) (F0 mth 12 ls [])) (K := fun q => (fun (m205 : _) => ∀ (H : Heap) (locs : List Loc) (ls : Array Slot), va_P g.1 vwCl (dws g m205) H → va_S (dA g) s.heap H locs → lv_has ls 6 [(1, .int v3)] → W p l e (headSpec wsX12_publish (dRm 4 99)).room s mth (([.ref (dad g p0)] : List Value).toArray) below meth c H locs 0 0 (MQ below (dQI g r0 m0) (([.ref (dad g p0)] : List Value).toArray) s 0 0 (dA g)) (F0 mth 119 ls [])) q) ?_ dFl _ qL4 hqL4 ?_ H locs ls hP hS (lv_sub hl [0, 1, 2] rfl)
  · intro q o h hCL4 hEL4
    obtain ⟨v5, m6⟩ := q
    have h : fX12_publish_l12 p0 v5 m6 = some o := h
    intro H locs ls hP hS hl
    have hP : va_P g.1 vwCl (dws g m6) H := hP
    have hl : lv_has ls 6 [(2, .int v5), (1, .int v3), (0, .ref (dad g p0))] := hl
    unfold fX12_publish_l12 at h
    refine lv_iload_n S.1 S.2.1 dX12_publish_12 rfl (lv_at hl 0 rfl) ?_
    refine lv_bipush (v := 12) S.1 S.2.1 dX12_publish_13 (by decide) ?_
    refine lv_icmp_ge (tgt := 119) S.1 S.2.1 dX12_publish_15 (by decide) (fun cq => ?_) (fun cq => ?_)
    · have h := d_t cq h
      obtain rfl := Option.some.inj h
      exact hEL4 _ rfl H locs ls hP hS (lv_sub hl [1] rfl)
    · have h := d_f cq h
      refine lv_iconst (v := 0) S.1 S.2.1 dX12_publish_18 (by decide) ?_
      refine lv_istore_n (lv' := [(3, .int 0), (2, .int v5), (1, .int v3), (0, .ref (dad g p0))]) S.1 S.2.1 dX12_publish_19 rfl hl (by decide) rfl (fun ls hl => ?_)
      obtain ⟨qL106, hqL106, h⟩ := d_b h
      refine d_lp (Hd := fun q => match q with | (v107, m108) => ∀ (H : Heap) (locs : List Loc) (ls : Array Slot), va_P g.1 vwCl (dws g m108) H → va_S (dA g) s.heap H locs → lv_has ls 6 [(3, .int v107), (2, .int v5), (1, .int v3), (0, .ref (dad g p0))] → W p l e (headSpec wsX12_publish (dRm 4 99)).room s mth (([.ref (dad g p0)] : List Value).toArray) below meth c H locs 0 0 (MQ below (dQI g r0 m0) (([.ref (dad g p0)] : List Value).toArray) s 0 0 (dA g)) (F0 mth 20 ls [])) (K := fun q => (fun (m203 : _) => ∀ (H : Heap) (locs : List Loc) (ls : Array Slot), va_P g.1 vwCl (dws g m203) H → va_S (dA g) s.heap H locs → lv_has ls 6 [(0, .ref (dad g p0)), (1, .int v3), (2, .int v5)] → W p l e (headSpec wsX12_publish (dRm 4 99)).room s mth (([.ref (dad g p0)] : List Value).toArray) below meth c H locs 0 0 (MQ below (dQI g r0 m0) (([.ref (dad g p0)] : List Value).toArray) s 0 0 (dA g)) (F0 mth 113 ls [])) q) ?_ dFl _ qL106 hqL106 ?_ H locs ls hP hS (lv_sub hl [0, 1, 2, 3] rfl)
      · intro q o h hCL106 hEL106
        obtain ⟨v107, m108⟩ := q
        have h : fX12_publish_l20 p0 v5 v107 m108 = some o := h
        intro H locs ls hP hS hl
        have hP : va_P g.1 vwCl (dws g m108) H := hP
        have hl : lv_has ls 6 [(3, .int v107), (2, .int v5), (1, .int v3), (0, .ref (dad g p0))] := hl
        unfold fX12_publish_l20 at h
        refine lv_iload_n S.1 S.2.1 dX12_publish_20 rfl (lv_at hl 0 rfl) ?_
        refine lv_bipush (v := 10) S.1 S.2.1 dX12_publish_21 (by decide) ?_
        refine lv_icmp_ge (tgt := 113) S.1 S.2.1 dX12_publish_23 (by decide) (fun cq => ?_) (fun cq => ?_)
        · have h := d_t cq h
          obtain rfl := Option.some.inj h
          exact hEL106 _ rfl H locs ls hP hS (lv_sub hl [3, 2, 1] rfl)
        · have h := d_f cq h
          refine lv_bipush (v := 10) S.1 S.2.1 dX12_publish_26 (by decide) ?_
          refine lv_iload_n S.1 S.2.1 dX12_publish_28 rfl (lv_at hl 1 rfl) ?_
          refine lv_imul S.1 S.2.1 dX12_publish_29 ?_
          refine lv_iload_n S.1 S.2.1 dX12_publish_30 rfl (lv_at hl 0 rfl) ?_
          refine lv_iadd S.1 S.2.1 dX12_publish_31 ?_
          refine lv_topi (fun v156 ev156 => ?_)
          have h := d_let ev156 h
          refine lv_istore (lv' := [(4, .int v156), (3, .int v107), (2, .int v5), (1, .int v3), (0, .ref (dad g p0))]) S.1 S.2.1 dX12_publish_32 hl (by decide) rfl (fun ls hl => ?_)
          refine lv_aload_n S.1 S.2.1 dX12_publish_34 rfl (lv_at hl 4 rfl) ?_
          refine dgf12_16 S in12 hE hP k0 (S.2.2.2.2 (.fieldLink RX12 55 "DrillFieldModel" "published" "[Z") (List.mem_of_getElem? (i := 2) rfl)) dX12_publish_35 ?_
          refine lv_iload S.1 S.2.1 dX12_publish_38 (lv_at hl 0 rfl) ?_
          refine lv_aload_n S.1 S.2.1 dX12_publish_40 rfl (lv_at hl 4 rfl) ?_
          refine lv_iload_n S.1 S.2.1 dX12_publish_41 rfl (lv_at hl 2 rfl) ?_
          obtain ⟨v158, hc157, h⟩ := d_b h
          refine dri (va_runV (As := [.int v5]) (rest := [.int v156, .ref (dad g 458)]) S (kX12_isPart l g hc157) (cwV 1 S.2.2.2.2 gX12_publish_X12_isPart rfl rfl rfl ynX12_isPart ⟨Nat.le_of_ble_eq_true rfl, Nat.le_of_ble_eq_true rfl⟩) (dpV hE hP hS (ci := 12) rfl (dat13 k0)) rfl rfl hl.1 rfl (lv_room (Nat.le_of_ble_eq_true rfl)) dX12_publish_42 ⟨Nat.le_of_ble_eq_true rfl, Nat.le_of_ble_eq_true rfl⟩) hS (fun H locs hP hS => ?_)
          refine lv_if_eq (tgt := 60) S.1 S.2.1 dX12_publish_45 (by decide) (fun cq => ?_) (fun cq => ?_)
          · have h := d_t cq h
            refine lv_iconst (v := 0) S.1 S.2.1 dX12_publish_60 (by decide) ?_
            obtain ⟨hi, h⟩ := d_g h
            refine d_zast S hE hP hS dk_458 hi (by decide) dX12_publish_61 (fun H locs hP hS => ?_)
            obtain ⟨m159, em159⟩ : ∃ z : dM, z = d1 m108 458 (Int32.toNatClampNeg (v156)) 0 := ⟨_, rfl⟩
            have h := d_let em159 h
            rw [← em159] at hP
            refine lv_iconst (v := 0) S.1 S.2.1 dX12_publish_62 (by decide) ?_
            refine lv_istore (lv' := [(5, .int 0), (4, .int v156), (3, .int v107), (2, .int v5), (1, .int v3), (0, .ref (dad g p0))]) S.1 S.2.1 dX12_publish_63 hl (by decide) rfl (fun ls hl => ?_)
            obtain ⟨qL160, hqL160, h⟩ := d_b h
            refine d_lp (Hd := fun q => match q with | (v161, m162) => ∀ (H : Heap) (locs : List Loc) (ls : Array Slot), va_P g.1 vwCl (dws g m162) H → va_S (dA g) s.heap H locs → lv_has ls 6 [(5, .int v161), (4, .int v156), (3, .int v107), (2, .int v5), (1, .int v3), (0, .ref (dad g p0))] → W p l e (headSpec wsX12_publish (dRm 4 99)).room s mth (([.ref (dad g p0)] : List Value).toArray) below meth c H locs 0 0 (MQ below (dQI g r0 m0) (([.ref (dad g p0)] : List Value).toArray) s 0 0 (dA g)) (F0 mth 65 ls [])) (K := fun q => (fun (m171 : _) => ∀ (H : Heap) (locs : List Loc) (ls : Array Slot), va_P g.1 vwCl (dws g m171) H → va_S (dA g) s.heap H locs → lv_has ls 6 [(0, .ref (dad g p0)), (1, .int v3), (2, .int v5), (3, .int v107)] → W p l e (headSpec wsX12_publish (dRm 4 99)).room s mth (([.ref (dad g p0)] : List Value).toArray) below meth c H locs 0 0 (MQ below (dQI g r0 m0) (([.ref (dad g p0)] : List Value).toArray) s 0 0 (dA g)) (F0 mth 107 ls [])) q) ?_ dFl _ qL160 hqL160 ?_ H locs ls hP hS (lv_sub hl [0, 1, 2, 3, 4, 5] rfl)
            · intro q o h hCL160 hEL160
              obtain ⟨v161, m162⟩ := q
              have h : fX12_publish_l65 p0 v5 v107 v156 v161 m162 = some o := h
              intro H locs ls hP hS hl
              have hP : va_P g.1 vwCl (dws g m162) H := hP
              have hl : lv_has ls 6 [(5, .int v161), (4, .int v156), (3, .int v107), (2, .int v5), (1, .int v3), (0, .ref (dad g p0))] := hl
              unfold fX12_publish_l65 at h
              refine lv_iload S.1 S.2.1 dX12_publish_65 (lv_at hl 0 rfl) ?_
              refine lv_iconst (v := 4) S.1 S.2.1 dX12_publish_67 (by decide) ?_
              refine lv_icmp_ge (tgt := 107) S.1 S.2.1 dX12_publish_68 (by decide) (fun cq => ?_) (fun cq => ?_)
              · have h := d_t cq h
                obtain rfl := Option.some.inj h
                exact hEL160 _ rfl H locs ls hP hS (lv_sub hl [5, 4, 3, 2] rfl)
              · have h := d_f cq h
                refine lv_aload_n S.1 S.2.1 dX12_publish_71 rfl (lv_at hl 5 rfl) ?_
                refine dgf12_16 S in12 hE hP k0 (S.2.2.2.2 (.fieldLink RX12 55 "DrillFieldModel" "published" "[Z") (List.mem_of_getElem? (i := 2) rfl)) dX12_publish_72 ?_
                refine lv_iload S.1 S.2.1 dX12_publish_75 (lv_at hl 1 rfl) ?_
                obtain ⟨hi, h⟩ := d_g h
                refine d_zald S hE hP dk_458 hi dX12_publish_77 ?_
                refine lv_if_eq (tgt := 107) S.1 S.2.1 dX12_publish_78 (by decide) (fun cq => ?_) (fun cq => ?_)
                · have h := d_t cq h
                  obtain rfl := Option.some.inj h
                  exact hEL160 _ rfl H locs ls hP hS (lv_sub hl [5, 4, 3, 2] rfl)
                · have h := d_f cq h
                  refine lv_aload_n S.1 S.2.1 dX12_publish_81 rfl (lv_at hl 5 rfl) ?_
                  refine dgf12_15 S in12 hE hP k0 (S.2.2.2.2 (.fieldLink RX12 52 "DrillFieldModel" "pages" "[I") (List.mem_of_getElem? (i := 3) rfl)) dX12_publish_82 ?_
                  refine lv_iconst (v := 4) S.1 S.2.1 dX12_publish_85 (by decide) ?_
                  refine lv_iload S.1 S.2.1 dX12_publish_86 (lv_at hl 1 rfl) ?_
                  refine lv_imul S.1 S.2.1 dX12_publish_88 ?_
                  refine lv_iload S.1 S.2.1 dX12_publish_89 (lv_at hl 0 rfl) ?_
                  refine lv_iadd S.1 S.2.1 dX12_publish_91 ?_
                  refine lv_aload_n S.1 S.2.1 dX12_publish_92 rfl (lv_at hl 5 rfl) ?_
                  refine lv_iload_n S.1 S.2.1 dX12_publish_93 rfl (lv_at hl 3 rfl) ?_
                  refine lv_iload_n S.1 S.2.1 dX12_publish_94 rfl (lv_at hl 2 rfl) ?_
                  refine lv_iload S.1 S.2.1 dX12_publish_95 (lv_at hl 0 rfl) ?_
                  obtain ⟨v168, hc167, h⟩ := d_b h
                  refine dri (va_runV (As := [.int v5, .int v107, .int v161]) (rest := [.int ((4 * v156) + v161), .ref (dad g 457)]) S (kX12_says l g hc167) (cwV 3 S.2.2.2.2 gX12_publish_X12_says rfl rfl rfl ynX12_says ⟨Nat.le_of_ble_eq_true rfl, Nat.le_of_ble_eq_true rfl⟩) (dpV hE hP hS (ci := 12) rfl (dat13 k0)) rfl rfl hl.1 rfl (lv_room (Nat.le_of_ble_eq_true rfl)) dX12_publish_97 ⟨Nat.le_of_ble_eq_true rfl, Nat.le_of_ble_eq_true rfl⟩) hS (fun H locs hP hS => ?_)
                  obtain ⟨hi, h⟩ := d_g h
                  refine d_iast S hE hP hS dk_457 hi dX12_publish_100 (fun H locs hP hS => ?_)
                  obtain ⟨m169, em169⟩ : ∃ z : dM, z = d1 m162 457 (Int32.toNatClampNeg ((4 * v156) + v161)) v168 := ⟨_, rfl⟩
                  have h := d_let em169 h
                  rw [← em169] at hP
                  obtain ⟨v170, ev170⟩ : ∃ z : Int32, z = v161 + 1 := ⟨_, rfl⟩
                  have h := d_let ev170 h
                  refine lv_iinc (v := v170) (lv' := [(5, .int v170), (4, .int v156), (3, .int v107), (2, .int v5), (1, .int v3), (0, .ref (dad g p0))]) S.1 S.2.1 dX12_publish_101 hl (k := 0) rfl (by rw [ev170]; rfl) (by decide) rfl (fun ls hl => ?_)
                  refine lv_goto (tgt := 65) S.1 S.2.1 dX12_publish_104 (by decide) ?_
                  obtain rfl := Option.some.inj h
                  exact hCL160 _ rfl H locs ls hP hS (lv_sub hl [0, 1, 2, 3, 4, 5] rfl)
            · obtain ⟨m171, rfl⟩ : ∃ z, z = qL160 := ⟨_, rfl⟩
              have h := d_p1 h
              intro H locs ls hP hS hl
              have hP : va_P g.1 vwCl (dws g m171) H := hP
              have hl : lv_has ls 6 [(0, .ref (dad g p0)), (1, .int v3), (2, .int v5), (3, .int v107)] := hl
              obtain ⟨v172, ev172⟩ : ∃ z : Int32, z = v107 + 1 := ⟨_, rfl⟩
              have h := d_let ev172 h
              refine lv_iinc (v := v172) (lv' := [(3, .int v172), (0, .ref (dad g p0)), (1, .int v3), (2, .int v5)]) S.1 S.2.1 dX12_publish_107 hl (k := 3) rfl (by rw [ev172]; rfl) (by decide) rfl (fun ls hl => ?_)
              refine lv_goto (tgt := 20) S.1 S.2.1 dX12_publish_110 (by decide) ?_
              obtain rfl := Option.some.inj h
              exact hCL106 _ rfl H locs ls hP hS (lv_sub hl [0, 3, 2, 1] rfl)
          · have h := d_f cq h
            refine lv_aload_n S.1 S.2.1 dX12_publish_48 rfl (lv_at hl 4 rfl) ?_
            refine lv_iload_n S.1 S.2.1 dX12_publish_49 rfl (lv_at hl 1 rfl) ?_
            obtain ⟨v174, hc173, h⟩ := d_b h
            refine dri (va_runV (As := [.int v107]) (rest := [.int v156, .ref (dad g 458)]) S (kX12_isDot l g hc173) (cwV 1 S.2.2.2.2 gX12_publish_X12_isDot rfl rfl rfl ynX12_isDot ⟨Nat.le_of_ble_eq_true rfl, Nat.le_of_ble_eq_true rfl⟩) (dpV hE hP hS (ci := 12) rfl (dat13 k0)) rfl rfl hl.1 rfl (lv_room (Nat.le_of_ble_eq_true rfl)) dX12_publish_50 ⟨Nat.le_of_ble_eq_true rfl, Nat.le_of_ble_eq_true rfl⟩) hS (fun H locs hP hS => ?_)
            refine lv_if_eq (tgt := 60) S.1 S.2.1 dX12_publish_53 (by decide) (fun cq => ?_) (fun cq => ?_)
            · have h := d_t cq h
              refine lv_iconst (v := 0) S.1 S.2.1 dX12_publish_60 (by decide) ?_
              obtain ⟨hi, h⟩ := d_g h
              refine d_zast S hE hP hS dk_458 hi (by decide) dX12_publish_61 (fun H locs hP hS => ?_)
              obtain ⟨m175, em175⟩ : ∃ z : dM, z = d1 m108 458 (Int32.toNatClampNeg (v156)) 0 := ⟨_, rfl⟩
              have h := d_let em175 h
              rw [← em175] at hP
              refine lv_iconst (v := 0) S.1 S.2.1 dX12_publish_62 (by decide) ?_
              refine lv_istore (lv' := [(5, .int 0), (4, .int v156), (3, .int v107), (2, .int v5), (1, .int v3), (0, .ref (dad g p0))]) S.1 S.2.1 dX12_publish_63 hl (by decide) rfl (fun ls hl => ?_)
              obtain ⟨qL176, hqL176, h⟩ := d_b h
              refine d_lp (Hd := fun q => match q with | (v177, m178) => ∀ (H : Heap) (locs : List Loc) (ls : Array Slot), va_P g.1 vwCl (dws g m178) H → va_S (dA g) s.heap H locs → lv_has ls 6 [(5, .int v177), (4, .int v156), (3, .int v107), (2, .int v5), (1, .int v3), (0, .ref (dad g p0))] → W p l e (headSpec wsX12_publish (dRm 4 99)).room s mth (([.ref (dad g p0)] : List Value).toArray) below meth c H locs 0 0 (MQ below (dQI g r0 m0) (([.ref (dad g p0)] : List Value).toArray) s 0 0 (dA g)) (F0 mth 65 ls [])) (K := fun q => (fun (m187 : _) => ∀ (H : Heap) (locs : List Loc) (ls : Array Slot), va_P g.1 vwCl (dws g m187) H → va_S (dA g) s.heap H locs → lv_has ls 6 [(0, .ref (dad g p0)), (1, .int v3), (2, .int v5), (3, .int v107)] → W p l e (headSpec wsX12_publish (dRm 4 99)).room s mth (([.ref (dad g p0)] : List Value).toArray) below meth c H locs 0 0 (MQ below (dQI g r0 m0) (([.ref (dad g p0)] : List Value).toArray) s 0 0 (dA g)) (F0 mth 107 ls [])) q) ?_ dFl _ qL176 hqL176 ?_ H locs ls hP hS (lv_sub hl [0, 1, 2, 3, 4, 5] rfl)
              · intro q o h hCL176 hEL176
                obtain ⟨v177, m178⟩ := q
                have h : fX12_publish_l65_2 p0 v5 v107 v156 v177 m178 = some o := h
                intro H locs ls hP hS hl
                have hP : va_P g.1 vwCl (dws g m178) H := hP
                have hl : lv_has ls 6 [(5, .int v177), (4, .int v156), (3, .int v107), (2, .int v5), (1, .int v3), (0, .ref (dad g p0))] := hl
                unfold fX12_publish_l65_2 at h
                refine lv_iload S.1 S.2.1 dX12_publish_65 (lv_at hl 0 rfl) ?_
                refine lv_iconst (v := 4) S.1 S.2.1 dX12_publish_67 (by decide) ?_
                refine lv_icmp_ge (tgt := 107) S.1 S.2.1 dX12_publish_68 (by decide) (fun cq => ?_) (fun cq => ?_)
                · have h := d_t cq h
                  obtain rfl := Option.some.inj h
                  exact hEL176 _ rfl H locs ls hP hS (lv_sub hl [5, 4, 3, 2] rfl)
                · have h := d_f cq h
                  refine lv_aload_n S.1 S.2.1 dX12_publish_71 rfl (lv_at hl 5 rfl) ?_
                  refine dgf12_16 S in12 hE hP k0 (S.2.2.2.2 (.fieldLink RX12 55 "DrillFieldModel" "published" "[Z") (List.mem_of_getElem? (i := 2) rfl)) dX12_publish_72 ?_
                  refine lv_iload S.1 S.2.1 dX12_publish_75 (lv_at hl 1 rfl) ?_
                  obtain ⟨hi, h⟩ := d_g h
                  refine d_zald S hE hP dk_458 hi dX12_publish_77 ?_
                  refine lv_if_eq (tgt := 107) S.1 S.2.1 dX12_publish_78 (by decide) (fun cq => ?_) (fun cq => ?_)
                  · have h := d_t cq h
                    obtain rfl := Option.some.inj h
                    exact hEL176 _ rfl H locs ls hP hS (lv_sub hl [5, 4, 3, 2] rfl)
                  · have h := d_f cq h
                    refine lv_aload_n S.1 S.2.1 dX12_publish_81 rfl (lv_at hl 5 rfl) ?_
                    refine dgf12_15 S in12 hE hP k0 (S.2.2.2.2 (.fieldLink RX12 52 "DrillFieldModel" "pages" "[I") (List.mem_of_getElem? (i := 3) rfl)) dX12_publish_82 ?_
                    refine lv_iconst (v := 4) S.1 S.2.1 dX12_publish_85 (by decide) ?_
                    refine lv_iload S.1 S.2.1 dX12_publish_86 (lv_at hl 1 rfl) ?_
                    refine lv_imul S.1 S.2.1 dX12_publish_88 ?_
                    refine lv_iload S.1 S.2.1 dX12_publish_89 (lv_at hl 0 rfl) ?_
                    refine lv_iadd S.1 S.2.1 dX12_publish_91 ?_
                    refine lv_aload_n S.1 S.2.1 dX12_publish_92 rfl (lv_at hl 5 rfl) ?_
                    refine lv_iload_n S.1 S.2.1 dX12_publish_93 rfl (lv_at hl 3 rfl) ?_
                    refine lv_iload_n S.1 S.2.1 dX12_publish_94 rfl (lv_at hl 2 rfl) ?_
                    refine lv_iload S.1 S.2.1 dX12_publish_95 (lv_at hl 0 rfl) ?_
                    obtain ⟨v184, hc183, h⟩ := d_b h
                    refine dri (va_runV (As := [.int v5, .int v107, .int v177]) (rest := [.int ((4 * v156) + v177), .ref (dad g 457)]) S (kX12_says l g hc183) (cwV 3 S.2.2.2.2 gX12_publish_X12_says rfl rfl rfl ynX12_says ⟨Nat.le_of_ble_eq_true rfl, Nat.le_of_ble_eq_true rfl⟩) (dpV hE hP hS (ci := 12) rfl (dat13 k0)) rfl rfl hl.1 rfl (lv_room (Nat.le_of_ble_eq_true rfl)) dX12_publish_97 ⟨Nat.le_of_ble_eq_true rfl, Nat.le_of_ble_eq_true rfl⟩) hS (fun H locs hP hS => ?_)
                    obtain ⟨hi, h⟩ := d_g h
                    refine d_iast S hE hP hS dk_457 hi dX12_publish_100 (fun H locs hP hS => ?_)
                    obtain ⟨m185, em185⟩ : ∃ z : dM, z = d1 m178 457 (Int32.toNatClampNeg ((4 * v156) + v177)) v184 := ⟨_, rfl⟩
                    have h := d_let em185 h
                    rw [← em185] at hP
                    obtain ⟨v186, ev186⟩ : ∃ z : Int32, z = v177 + 1 := ⟨_, rfl⟩
                    have h := d_let ev186 h
                    refine lv_iinc (v := v186) (lv' := [(5, .int v186), (4, .int v156), (3, .int v107), (2, .int v5), (1, .int v3), (0, .ref (dad g p0))]) S.1 S.2.1 dX12_publish_101 hl (k := 0) rfl (by rw [ev186]; rfl) (by decide) rfl (fun ls hl => ?_)
                    refine lv_goto (tgt := 65) S.1 S.2.1 dX12_publish_104 (by decide) ?_
                    obtain rfl := Option.some.inj h
                    exact hCL176 _ rfl H locs ls hP hS (lv_sub hl [0, 1, 2, 3, 4, 5] rfl)
              · obtain ⟨m187, rfl⟩ : ∃ z, z = qL176 := ⟨_, rfl⟩
                have h := d_p1 h
                intro H locs ls hP hS hl
                have hP : va_P g.1 vwCl (dws g m187) H := hP
                have hl : lv_has ls 6 [(0, .ref (dad g p0)), (1, .int v3), (2, .int v5), (3, .int v107)] := hl
                obtain ⟨v188, ev188⟩ : ∃ z : Int32, z = v107 + 1 := ⟨_, rfl⟩
                have h := d_let ev188 h
                refine lv_iinc (v := v188) (lv' := [(3, .int v188), (0, .ref (dad g p0)), (1, .int v3), (2, .int v5)]) S.1 S.2.1 dX12_publish_107 hl (k := 3) rfl (by rw [ev188]; rfl) (by decide) rfl (fun ls hl => ?_)
                refine lv_goto (tgt := 20) S.1 S.2.1 dX12_publish_110 (by decide) ?_
                obtain rfl := Option.some.inj h
                exact hCL106 _ rfl H locs ls hP hS (lv_sub hl [0, 3, 2, 1] rfl)
            · have h := d_f cq h
              refine lv_iconst (v := 1) S.1 S.2.1 dX12_publish_56 (by decide) ?_
              refine lv_goto (tgt := 61) S.1 S.2.1 dX12_publish_57 (by decide) ?_
              obtain ⟨hi, h⟩ := d_g h
              refine d_zast S hE hP hS dk_458 hi (by decide) dX12_publish_61 (fun H locs hP hS => ?_)
              obtain ⟨m189, em189⟩ : ∃ z : dM, z = d1 m108 458 (Int32.toNatClampNeg (v156)) 1 := ⟨_, rfl⟩
              have h := d_let em189 h
              rw [← em189] at hP
              refine lv_iconst (v := 0) S.1 S.2.1 dX12_publish_62 (by decide) ?_
              refine lv_istore (lv' := [(5, .int 0), (4, .int v156), (3, .int v107), (2, .int v5), (1, .int v3), (0, .ref (dad g p0))]) S.1 S.2.1 dX12_publish_63 hl (by decide) rfl (fun ls hl => ?_)
              obtain ⟨qL190, hqL190, h⟩ := d_b h
              refine d_lp (Hd := fun q => match q with | (v191, m192) => ∀ (H : Heap) (locs : List Loc) (ls : Array Slot), va_P g.1 vwCl (dws g m192) H → va_S (dA g) s.heap H locs → lv_has ls 6 [(5, .int v191), (4, .int v156), (3, .int v107), (2, .int v5), (1, .int v3), (0, .ref (dad g p0))] → W p l e (headSpec wsX12_publish (dRm 4 99)).room s mth (([.ref (dad g p0)] : List Value).toArray) below meth c H locs 0 0 (MQ below (dQI g r0 m0) (([.ref (dad g p0)] : List Value).toArray) s 0 0 (dA g)) (F0 mth 65 ls [])) (K := fun q => (fun (m201 : _) => ∀ (H : Heap) (locs : List Loc) (ls : Array Slot), va_P g.1 vwCl (dws g m201) H → va_S (dA g) s.heap H locs → lv_has ls 6 [(0, .ref (dad g p0)), (1, .int v3), (2, .int v5), (3, .int v107)] → W p l e (headSpec wsX12_publish (dRm 4 99)).room s mth (([.ref (dad g p0)] : List Value).toArray) below meth c H locs 0 0 (MQ below (dQI g r0 m0) (([.ref (dad g p0)] : List Value).toArray) s 0 0 (dA g)) (F0 mth 107 ls [])) q) ?_ dFl _ qL190 hqL190 ?_ H locs ls hP hS (lv_sub hl [0, 1, 2, 3, 4, 5] rfl)
              · intro q o h hCL190 hEL190
                obtain ⟨v191, m192⟩ := q
                have h : fX12_publish_l65_3 p0 v5 v107 v156 v191 m192 = some o := h
                intro H locs ls hP hS hl
                have hP : va_P g.1 vwCl (dws g m192) H := hP
                have hl : lv_has ls 6 [(5, .int v191), (4, .int v156), (3, .int v107), (2, .int v5), (1, .int v3), (0, .ref (dad g p0))] := hl
                unfold fX12_publish_l65_3 at h
                refine lv_iload S.1 S.2.1 dX12_publish_65 (lv_at hl 0 rfl) ?_
                refine lv_iconst (v := 4) S.1 S.2.1 dX12_publish_67 (by decide) ?_
                refine lv_icmp_ge (tgt := 107) S.1 S.2.1 dX12_publish_68 (by decide) (fun cq => ?_) (fun cq => ?_)
                · have h := d_t cq h
                  obtain rfl := Option.some.inj h
                  exact hEL190 _ rfl H locs ls hP hS (lv_sub hl [5, 4, 3, 2] rfl)
                · have h := d_f cq h
                  refine lv_aload_n S.1 S.2.1 dX12_publish_71 rfl (lv_at hl 5 rfl) ?_
                  refine dgf12_16 S in12 hE hP k0 (S.2.2.2.2 (.fieldLink RX12 55 "DrillFieldModel" "published" "[Z") (List.mem_of_getElem? (i := 2) rfl)) dX12_publish_72 ?_
                  refine lv_iload S.1 S.2.1 dX12_publish_75 (lv_at hl 1 rfl) ?_
                  obtain ⟨hi, h⟩ := d_g h
                  refine d_zald S hE hP dk_458 hi dX12_publish_77 ?_
                  refine lv_if_eq (tgt := 107) S.1 S.2.1 dX12_publish_78 (by decide) (fun cq => ?_) (fun cq => ?_)
                  · have h := d_t cq h
                    obtain rfl := Option.some.inj h
                    exact hEL190 _ rfl H locs ls hP hS (lv_sub hl [5, 4, 3, 2] rfl)
                  · have h := d_f cq h
                    refine lv_aload_n S.1 S.2.1 dX12_publish_81 rfl (lv_at hl 5 rfl) ?_
                    refine dgf12_15 S in12 hE hP k0 (S.2.2.2.2 (.fieldLink RX12 52 "DrillFieldModel" "pages" "[I") (List.mem_of_getElem? (i := 3) rfl)) dX12_publish_82 ?_
                    refine lv_iconst (v := 4) S.1 S.2.1 dX12_publish_85 (by decide) ?_
                    refine lv_iload S.1 S.2.1 dX12_publish_86 (lv_at hl 1 rfl) ?_
                    refine lv_imul S.1 S.2.1 dX12_publish_88 ?_
                    refine lv_iload S.1 S.2.1 dX12_publish_89 (lv_at hl 0 rfl) ?_
                    refine lv_iadd S.1 S.2.1 dX12_publish_91 ?_
                    refine lv_aload_n S.1 S.2.1 dX12_publish_92 rfl (lv_at hl 5 rfl) ?_
                    refine lv_iload_n S.1 S.2.1 dX12_publish_93 rfl (lv_at hl 3 rfl) ?_
                    refine lv_iload_n S.1 S.2.1 dX12_publish_94 rfl (lv_at hl 2 rfl) ?_
                    refine lv_iload S.1 S.2.1 dX12_publish_95 (lv_at hl 0 rfl) ?_
                    obtain ⟨v198, hc197, h⟩ := d_b h
                    refine dri (va_runV (As := [.int v5, .int v107, .int v191]) (rest := [.int ((4 * v156) + v191), .ref (dad g 457)]) S (kX12_says l g hc197) (cwV 3 S.2.2.2.2 gX12_publish_X12_says rfl rfl rfl ynX12_says ⟨Nat.le_of_ble_eq_true rfl, Nat.le_of_ble_eq_true rfl⟩) (dpV hE hP hS (ci := 12) rfl (dat13 k0)) rfl rfl hl.1 rfl (lv_room (Nat.le_of_ble_eq_true rfl)) dX12_publish_97 ⟨Nat.le_of_ble_eq_true rfl, Nat.le_of_ble_eq_true rfl⟩) hS (fun H locs hP hS => ?_)
                    obtain ⟨hi, h⟩ := d_g h
                    refine d_iast S hE hP hS dk_457 hi dX12_publish_100 (fun H locs hP hS => ?_)
                    obtain ⟨m199, em199⟩ : ∃ z : dM, z = d1 m192 457 (Int32.toNatClampNeg ((4 * v156) + v191)) v198 := ⟨_, rfl⟩
                    have h := d_let em199 h
                    rw [← em199] at hP
                    obtain ⟨v200, ev200⟩ : ∃ z : Int32, z = v191 + 1 := ⟨_, rfl⟩
                    have h := d_let ev200 h
                    refine lv_iinc (v := v200) (lv' := [(5, .int v200), (4, .int v156), (3, .int v107), (2, .int v5), (1, .int v3), (0, .ref (dad g p0))]) S.1 S.2.1 dX12_publish_101 hl (k := 0) rfl (by rw [ev200]; rfl) (by decide) rfl (fun ls hl => ?_)
                    refine lv_goto (tgt := 65) S.1 S.2.1 dX12_publish_104 (by decide) ?_
                    obtain rfl := Option.some.inj h
                    exact hCL190 _ rfl H locs ls hP hS (lv_sub hl [0, 1, 2, 3, 4, 5] rfl)
              · obtain ⟨m201, rfl⟩ : ∃ z, z = qL190 := ⟨_, rfl⟩
                have h := d_p1 h
                intro H locs ls hP hS hl
                have hP : va_P g.1 vwCl (dws g m201) H := hP
                have hl : lv_has ls 6 [(0, .ref (dad g p0)), (1, .int v3), (2, .int v5), (3, .int v107)] := hl
                obtain ⟨v202, ev202⟩ : ∃ z : Int32, z = v107 + 1 := ⟨_, rfl⟩
                have h := d_let ev202 h
                refine lv_iinc (v := v202) (lv' := [(3, .int v202), (0, .ref (dad g p0)), (1, .int v3), (2, .int v5)]) S.1 S.2.1 dX12_publish_107 hl (k := 3) rfl (by rw [ev202]; rfl) (by decide) rfl (fun ls hl => ?_)
                refine lv_goto (tgt := 20) S.1 S.2.1 dX12_publish_110 (by decide) ?_
                obtain rfl := Option.some.inj h
                exact hCL106 _ rfl H locs ls hP hS (lv_sub hl [0, 3, 2, 1] rfl)
      · obtain ⟨m203, rfl⟩ : ∃ z, z = qL106 := ⟨_, rfl⟩
        have h := d_p1 h
        intro H locs ls hP hS hl
        have hP : va_P g.1 vwCl (dws g m203) H := hP
        have hl : lv_has ls 6 [(0, .ref (dad g p0)), (1, .int v3), (2, .int v5)] := hl
        obtain ⟨v204, ev204⟩ : ∃ z : Int32, z = v5 + 1 := ⟨_, rfl⟩
        have h := d_let ev204 h
        refine lv_iinc (v := v204) (lv' := [(2, .int v204), (0, .ref (dad g p0)), (1, .int v3)]) S.1 S.2.1 dX12_publish_113 hl (k := 2) rfl (by rw [ev204]; rfl) (by decide) rfl (fun ls hl => ?_)
        refine lv_goto (tgt := 12) S.1 S.2.1 dX12_publish_116 (by decide) ?_
        obtain rfl := Option.some.inj h
        exact hCL4 _ rfl H locs ls hP hS (lv_sub hl [0, 2, 1] rfl)
  · obtain ⟨m205, rfl⟩ : ∃ z, z = qL4 := ⟨_, rfl⟩
    have h := d_p1 h
    intro H locs ls hP hS hl
    have hP : va_P g.1 vwCl (dws g m205) H := hP
    have hl : lv_has ls 6 [(1, .int v3)] := hl
    refine lv_iload_n S.1 S.2.1 dX12_publish_119 rfl (lv_at hl 0 rfl) ?_
    obtain ⟨rfl, rfl⟩ := Prod.mk.inj (Option.some.inj h)
    exact dti S hr hlk hE hP hS rfl dX12_publish_120
set_option maxRecDepth 20000 in
theorem ggX12_ranked_X12_isIn : GoodIn wsX12_ranked wsX12_isIn := goodIn_r _ [5] (by decide +kernel) (by decide +kernel)
set_option maxRecDepth 20000 in
theorem gX12_ranked_X12_isIn : GoodIn wsX12_ranked (va_wsS RX12 79 yX12_isIn wsX12_isIn) := goodIn_app (goodIn_of _ (by decide +kernel)) ggX12_ranked_X12_isIn
set_option maxRecDepth 20000 in
theorem ggX12_ranked_X12_isAhead : GoodIn wsX12_ranked wsX12_isAhead := goodIn_r _ [9, 10, 11, 12, 13, 4, 14, 15, 16, 17, 18, 19, 20, 21, 22, 23, 24, 25, 26, 27, 28, 29, 30, 31, 32, 33, 34, 35, 36, 37, 38, 39, 40, 41, 42, 43, 44, 45, 46, 47, 48, 49, 50, 51, 52] (by decide +kernel) (by decide +kernel)
set_option maxRecDepth 20000 in
theorem gX12_ranked_X12_isAhead : GoodIn wsX12_ranked (wsV RX12 226 RX12 yX12_isAhead wsX12_isAhead) := goodIn_app (goodIn_of _ (by decide +kernel)) ggX12_ranked_X12_isAhead
theorem dX12_ranked_0 : decode cX12_ranked 0 = .ok (.aload_n 0, 1) := by decide +kernel
theorem dX12_ranked_1 : decode cX12_ranked 1 = .ok (.iload_n 1, 1) := by decide +kernel
theorem dX12_ranked_2 : decode cX12_ranked 2 = .ok (.iconst 0, 1) := by decide +kernel
theorem dX12_ranked_3 : decode cX12_ranked 3 = .ok (.iconst 5, 1) := by decide +kernel
theorem dX12_ranked_4 : decode cX12_ranked 4 = .ok (.invokestatic 79, 3) := by decide +kernel
theorem dX12_ranked_7 : decode cX12_ranked 7 = .ok (.ifCond .eq 7, 3) := by decide +kernel
theorem dX12_ranked_10 : decode cX12_ranked 10 = .ok (.iconst 0, 1) := by decide +kernel
theorem dX12_ranked_11 : decode cX12_ranked 11 = .ok (.goto 4, 3) := by decide +kernel
theorem dX12_ranked_14 : decode cX12_ranked 14 = .ok (.iconst 1, 1) := by decide +kernel
theorem dX12_ranked_15 : decode cX12_ranked 15 = .ok (.putfield 76, 3) := by decide +kernel
theorem dX12_ranked_18 : decode cX12_ranked 18 = .ok (.iconst 0, 1) := by decide +kernel
theorem dX12_ranked_19 : decode cX12_ranked 19 = .ok (.istore_n 2, 1) := by decide +kernel
theorem dX12_ranked_20 : decode cX12_ranked 20 = .ok (.iload_n 2, 1) := by decide +kernel
theorem dX12_ranked_21 : decode cX12_ranked 21 = .ok (.bipush 6, 2) := by decide +kernel
theorem dX12_ranked_23 : decode cX12_ranked 23 = .ok (.if_icmp .ge 65, 3) := by decide +kernel
theorem dX12_ranked_26 : decode cX12_ranked 26 = .ok (.aload_n 0, 1) := by decide +kernel
theorem dX12_ranked_27 : decode cX12_ranked 27 = .ok (.getfield 76, 3) := by decide +kernel
theorem dX12_ranked_30 : decode cX12_ranked 30 = .ok (.ifCond .ne 58, 3) := by decide +kernel
theorem dX12_ranked_33 : decode cX12_ranked 33 = .ok (.iconst 0, 1) := by decide +kernel
theorem dX12_ranked_34 : decode cX12_ranked 34 = .ok (.istore_n 3, 1) := by decide +kernel
theorem dX12_ranked_35 : decode cX12_ranked 35 = .ok (.iconst 0, 1) := by decide +kernel
theorem dX12_ranked_36 : decode cX12_ranked 36 = .ok (.istore 4, 2) := by decide +kernel
theorem dX12_ranked_38 : decode cX12_ranked 38 = .ok (.iload 4, 2) := by decide +kernel
theorem dX12_ranked_40 : decode cX12_ranked 40 = .ok (.bipush 6, 2) := by decide +kernel
theorem dX12_ranked_42 : decode cX12_ranked 42 = .ok (.if_icmp .ge 33, 3) := by decide +kernel
theorem dX12_ranked_45 : decode cX12_ranked 45 = .ok (.iload_n 3, 1) := by decide +kernel
theorem dX12_ranked_46 : decode cX12_ranked 46 = .ok (.iload 4, 2) := by decide +kernel
theorem dX12_ranked_48 : decode cX12_ranked 48 = .ok (.iload_n 2, 1) := by decide +kernel
theorem dX12_ranked_49 : decode cX12_ranked 49 = .ok (.if_icmp .eq 17, 3) := by decide +kernel
theorem dX12_ranked_52 : decode cX12_ranked 52 = .ok (.aload_n 0, 1) := by decide +kernel
theorem dX12_ranked_53 : decode cX12_ranked 53 = .ok (.iload 4, 2) := by decide +kernel
theorem dX12_ranked_55 : decode cX12_ranked 55 = .ok (.iload_n 2, 1) := by decide +kernel
theorem dX12_ranked_56 : decode cX12_ranked 56 = .ok (.invokevirtual 226, 3) := by decide +kernel
theorem dX12_ranked_59 : decode cX12_ranked 59 = .ok (.ifCond .eq 7, 3) := by decide +kernel
theorem dX12_ranked_62 : decode cX12_ranked 62 = .ok (.iconst 1, 1) := by decide +kernel
theorem dX12_ranked_63 : decode cX12_ranked 63 = .ok (.goto 4, 3) := by decide +kernel
theorem dX12_ranked_66 : decode cX12_ranked 66 = .ok (.iconst 0, 1) := by decide +kernel
theorem dX12_ranked_67 : decode cX12_ranked 67 = .ok (.iadd, 1) := by decide +kernel
theorem dX12_ranked_68 : decode cX12_ranked 68 = .ok (.istore_n 3, 1) := by decide +kernel
theorem dX12_ranked_69 : decode cX12_ranked 69 = .ok (.iinc 4 1, 3) := by decide +kernel
theorem dX12_ranked_72 : decode cX12_ranked 72 = .ok (.goto (-34), 3) := by decide +kernel
theorem dX12_ranked_75 : decode cX12_ranked 75 = .ok (.iload_n 3, 1) := by decide +kernel
theorem dX12_ranked_76 : decode cX12_ranked 76 = .ok (.iload_n 1, 1) := by decide +kernel
theorem dX12_ranked_77 : decode cX12_ranked 77 = .ok (.if_icmp .ne 5, 3) := by decide +kernel
theorem dX12_ranked_80 : decode cX12_ranked 80 = .ok (.iload_n 2, 1) := by decide +kernel
theorem dX12_ranked_81 : decode cX12_ranked 81 = .ok (.ireturn, 1) := by decide +kernel
theorem dX12_ranked_82 : decode cX12_ranked 82 = .ok (.iinc 2 1, 3) := by decide +kernel
theorem dX12_ranked_85 : decode cX12_ranked 85 = .ok (.goto (-65), 3) := by decide +kernel
theorem dX12_ranked_88 : decode cX12_ranked 88 = .ok (.iconst 0, 1) := by decide +kernel
theorem dX12_ranked_89 : decode cX12_ranked 89 = .ok (.ireturn, 1) := by decide +kernel
def fX12_ranked_l38 (p0 : Nat) (m3 : dM) (v5 : Int32) (v28 : Int32) (v29 : Int32) : Option ((Int32 × Int32) ⊕ Int32) := if 6 ≤ v28 then some (.inr v29) else if v28 = v5 then dlet (v29 + 0 : Int32) (fun v38 => dlet (v28 + 1 : Int32) (fun v39 => some (.inl (v39, v38)))) else (fX12_isAhead m3 p0 v28 v5).bind (fun v41 => if v41 = 0 then dlet (v29 + 0 : Int32) (fun v42 => dlet (v28 + 1 : Int32) (fun v43 => some (.inl (v43, v42)))) else dlet (v29 + 1 : Int32) (fun v44 => dlet (v28 + 1 : Int32) (fun v45 => some (.inl (v45, v44)))))
def fX12_ranked_l20 (p0 : Nat) (p1 : Int32) (m3 : dM) (v5 : Int32) : Option (Int32 ⊕ (Int32 ⊕ Unit)) := if 6 ≤ v5 then some (.inr (.inr ())) else if (m3.1 p0 25) = 0 then (dlp (fun q => dP2 q (fun v28 v29 => fX12_ranked_l38 p0 m3 v5 v28 v29)) dFl (0, 0)).bind (fun q => dP1 q (fun v46 => if v46 = p1 then some (.inr (.inl v5)) else dlet (v5 + 1 : Int32) (fun v47 => some (.inl v47)))) else some (.inr (.inr ()))
def fX12_ranked_l38_2 (p0 : Nat) (m49 : dM) (v51 : Int32) (v74 : Int32) (v75 : Int32) : Option ((Int32 × Int32) ⊕ Int32) := if 6 ≤ v74 then some (.inr v75) else if v74 = v51 then dlet (v75 + 0 : Int32) (fun v84 => dlet (v74 + 1 : Int32) (fun v85 => some (.inl (v85, v84)))) else (fX12_isAhead m49 p0 v74 v51).bind (fun v87 => if v87 = 0 then dlet (v75 + 0 : Int32) (fun v88 => dlet (v74 + 1 : Int32) (fun v89 => some (.inl (v89, v88)))) else dlet (v75 + 1 : Int32) (fun v90 => dlet (v74 + 1 : Int32) (fun v91 => some (.inl (v91, v90)))))
def fX12_ranked_l20_2 (p0 : Nat) (p1 : Int32) (m49 : dM) (v51 : Int32) : Option (Int32 ⊕ (Int32 ⊕ Unit)) := if 6 ≤ v51 then some (.inr (.inr ())) else if (m49.1 p0 25) = 0 then (dlp (fun q => dP2 q (fun v74 v75 => fX12_ranked_l38_2 p0 m49 v51 v74 v75)) dFl (0, 0)).bind (fun q => dP1 q (fun v92 => if v92 = p1 then some (.inr (.inl v51)) else dlet (v51 + 1 : Int32) (fun v93 => some (.inl v93)))) else some (.inr (.inr ()))
def fX12_ranked (m : dM) (p0 : Nat) (p1 : Int32) : Option (Int32 × dM) := dg (dkg p0 13) ((fX12_isIn m p1 0 5).bind (fun v2 => if v2 = 0 then dlet (d1 m p0 25 1) (fun m3 => (dlp (fun q => (fun v5 => fX12_ranked_l20 p0 p1 m3 v5) q) dFl 0).bind (fun q => dS q (fun q => dP1 q (fun v48 => some (v48, m3))) (fun _ => some (0, m3)))) else dlet (d1 m p0 25 0) (fun m49 => (dlp (fun q => (fun v51 => fX12_ranked_l20_2 p0 p1 m49 v51) q) dFl 0).bind (fun q => dS q (fun q => dP1 q (fun v94 => some (v94, m49))) (fun _ => some (0, m49))))))
set_option maxHeartbeats 4000000 in
set_option maxRecDepth 100000 in
theorem kX12_ranked (l : Launch) (g : dG) {m : dM} {p0 : Nat} {p1 : Int32} {r0 : Int32} {m0 : dM} (h : fX12_ranked m p0 p1 = some (r0, m0)) : dMet l g yX12_ranked wsX12_ranked (dRm 3 71) [.ref (dad g p0), .int p1] m (dQI g r0 m0) := by
  refine dof (cc := cX12_ranked) (maxL := 5) (ret := (some .int)) _ (plainFor_of_name (by decide)) rfl (Nat.le_of_ble_eq_true rfl) ?_
  intro p e s mth below meth c S hr hlk hE H ls hP hS hl
  have S : CallFix p mth c cX12_ranked 5 s _ wsX12_ranked RX12 := S
  have hl : lv_has ls 5 [(0, .ref (dad g p0)), (1, .int p1)] := hl
  obtain ⟨locs, hlocs⟩ : ∃ z : List Loc, z = [] := ⟨_, rfl⟩
  rw [← hlocs] at hS ⊢
  have in12 : ∀ w ∈ wsX120, w ∈ wsX12_ranked := by decide +kernel
  unfold fX12_ranked at h
  obtain ⟨k0, h⟩ := d_g h
  have k0 := d_k k0
  refine lv_aload_n S.1 S.2.1 dX12_ranked_0 rfl (lv_at hl 0 rfl) ?_
  refine lv_iload_n S.1 S.2.1 dX12_ranked_1 rfl (lv_at hl 1 rfl) ?_
  refine lv_iconst (v := 0) S.1 S.2.1 dX12_ranked_2 (by decide) ?_
  refine lv_iconst (v := 5) S.1 S.2.1 dX12_ranked_3 (by decide) ?_
  obtain ⟨v2, hc1, h⟩ := d_b h
  refine dri (va_runS (As := [.int p1, .int 0, .int 5]) (rest := [.ref (dad g p0)]) S (kX12_isIn l g hc1) (va_cwS 3 S.2.2.2.2 gX12_ranked_X12_isIn rfl rfl rfl ynX12_isIn ⟨Nat.le_of_ble_eq_true rfl, Nat.le_of_ble_eq_true rfl⟩) (dpS hE hP hS) rfl rfl hl.1 rfl (lv_room (Nat.le_of_ble_eq_true rfl)) dX12_ranked_4 ⟨Nat.le_of_ble_eq_true rfl, Nat.le_of_ble_eq_true rfl⟩) hS (fun H locs hP hS => ?_)
  refine lv_if_eq (tgt := 14) S.1 S.2.1 dX12_ranked_7 (by decide) (fun cq => ?_) (fun cq => ?_)
  · have h := d_t cq h
    refine lv_iconst (v := 1) S.1 S.2.1 dX12_ranked_14 (by decide) ?_
    refine dpf12_25 S in12 hE hP hS k0 (S.2.2.2.2 (.fieldLink RX12 76 "DrillFieldModel" "thrown" "I") (List.mem_of_getElem? (i := 1) rfl)) dX12_ranked_15 (fun H locs hP hS => ?_)
    obtain ⟨m3, em3⟩ : ∃ z : dM, z = d1 m p0 25 1 := ⟨_, rfl⟩
    have h := d_let em3 h
    rw [← em3] at hP
    refine lv_iconst (v := 0) S.1 S.2.1 dX12_ranked_18 (by decide) ?_
    refine lv_istore_n (lv' := [(2, .int 0), (0, .ref (dad g p0)), (1, .int p1)]) S.1 S.2.1 dX12_ranked_19 rfl hl (by decide) rfl (fun ls hl => ?_)
    obtain ⟨qL4, hqL4, h⟩ := d_b h
    refine d_lp (Hd := fun q => (fun (v5 : _) => ∀ (H : Heap) (locs : List Loc) (ls : Array Slot), va_P g.1 vwCl (dws g m3) H → va_S (dA g) s.heap H locs → lv_has ls 5 [(2, .int v5), (0, .ref (dad g p0)), (1, .int p1)] → W p l e (headSpec wsX12_ranked (dRm 3 71)).room s mth (([.ref (dad g p0), .int p1] : List Value).toArray) below meth c H locs 0 0 (MQ below (dQI g r0 m0) (([.ref (dad g p0), .int p1] : List Value).toArray) s 0 0 (dA g)) (F0 mth 20 ls [])) q) (K := fun q => match q with | .inl q => (fun (v48 : _) => ∀ (H : Heap) (locs : List Loc) (ls : Array Slot), va_P g.1 vwCl (dws g m3) H → va_S (dA g) s.heap H locs → lv_has ls 5 [(2, .int v48)] → W p l e (headSpec wsX12_ranked (dRm 3 71)).room s mth (([.ref (dad g p0), .int p1] : List Value).toArray) below meth c H locs 0 0 (MQ below (dQI g r0 m0) (([.ref (dad g p0), .int p1] : List Value).toArray) s 0 0 (dA g)) (F0 mth 80 ls [])) q | .inr q => ∀ (H : Heap) (locs : List Loc) (ls : Array Slot), va_P g.1 vwCl (dws g m3) H → va_S (dA g) s.heap H locs → lv_has ls 5 [] → W p l e (headSpec wsX12_ranked (dRm 3 71)).room s mth (([.ref (dad g p0), .int p1] : List Value).toArray) below meth c H locs 0 0 (MQ below (dQI g r0 m0) (([.ref (dad g p0), .int p1] : List Value).toArray) s 0 0 (dA g)) (F0 mth 88 ls [])) ?_ dFl _ qL4 hqL4 ?_ H locs ls hP hS (lv_sub hl [0, 1, 2] rfl)
    · intro q o h hCL4 hEL4
      obtain ⟨v5, rfl⟩ : ∃ z, z = q := ⟨_, rfl⟩
      have h : fX12_ranked_l20 p0 p1 m3 v5 = some o := h
      intro H locs ls hP hS hl
      have hP : va_P g.1 vwCl (dws g m3) H := hP
      have hl : lv_has ls 5 [(2, .int v5), (0, .ref (dad g p0)), (1, .int p1)] := hl
      unfold fX12_ranked_l20 at h
      refine lv_iload_n S.1 S.2.1 dX12_ranked_20 rfl (lv_at hl 0 rfl) ?_
      refine lv_bipush (v := 6) S.1 S.2.1 dX12_ranked_21 (by decide) ?_
      refine lv_icmp_ge (tgt := 88) S.1 S.2.1 dX12_ranked_23 (by decide) (fun cq => ?_) (fun cq => ?_)
      · have h := d_t cq h
        obtain rfl := Option.some.inj h
        exact hEL4 _ rfl H locs ls hP hS (lv_sub hl [] rfl)
      · have h := d_f cq h
        refine lv_aload_n S.1 S.2.1 dX12_ranked_26 rfl (lv_at hl 1 rfl) ?_
        refine dgf12_25 S in12 hE hP k0 (S.2.2.2.2 (.fieldLink RX12 76 "DrillFieldModel" "thrown" "I") (List.mem_of_getElem? (i := 1) rfl)) dX12_ranked_27 ?_
        refine lv_if_ne (tgt := 88) S.1 S.2.1 dX12_ranked_30 (by decide) (fun cq => ?_) (fun cq => ?_)
        · have h := d_f cq h
          obtain rfl := Option.some.inj h
          exact hEL4 _ rfl H locs ls hP hS (lv_sub hl [] rfl)
        · have h := d_t cq h
          refine lv_iconst (v := 0) S.1 S.2.1 dX12_ranked_33 (by decide) ?_
          refine lv_istore_n (lv' := [(3, .int 0), (2, .int v5), (0, .ref (dad g p0)), (1, .int p1)]) S.1 S.2.1 dX12_ranked_34 rfl hl (by decide) rfl (fun ls hl => ?_)
          refine lv_iconst (v := 0) S.1 S.2.1 dX12_ranked_35 (by decide) ?_
          refine lv_istore (lv' := [(4, .int 0), (3, .int 0), (2, .int v5), (0, .ref (dad g p0)), (1, .int p1)]) S.1 S.2.1 dX12_ranked_36 hl (by decide) rfl (fun ls hl => ?_)
          obtain ⟨qL27, hqL27, h⟩ := d_b h
          refine d_lp (Hd := fun q => match q with | (v28, v29) => ∀ (H : Heap) (locs : List Loc) (ls : Array Slot), va_P g.1 vwCl (dws g m3) H → va_S (dA g) s.heap H locs → lv_has ls 5 [(4, .int v28), (3, .int v29), (2, .int v5), (0, .ref (dad g p0)), (1, .int p1)] → W p l e (headSpec wsX12_ranked (dRm 3 71)).room s mth (([.ref (dad g p0), .int p1] : List Value).toArray) below meth c H locs 0 0 (MQ below (dQI g r0 m0) (([.ref (dad g p0), .int p1] : List Value).toArray) s 0 0 (dA g)) (F0 mth 38 ls [])) (K := fun q => (fun (v46 : _) => ∀ (H : Heap) (locs : List Loc) (ls : Array Slot), va_P g.1 vwCl (dws g m3) H → va_S (dA g) s.heap H locs → lv_has ls 5 [(0, .ref (dad g p0)), (1, .int p1), (2, .int v5), (3, .int v46)] → W p l e (headSpec wsX12_ranked (dRm 3 71)).room s mth (([.ref (dad g p0), .int p1] : List Value).toArray) below meth c H locs 0 0 (MQ below (dQI g r0 m0) (([.ref (dad g p0), .int p1] : List Value).toArray) s 0 0 (dA g)) (F0 mth 75 ls [])) q) ?_ dFl _ qL27 hqL27 ?_ H locs ls hP hS (lv_sub hl [0, 1, 2, 3, 4] rfl)
          · intro q o h hCL27 hEL27
            obtain ⟨v28, v29⟩ := q
            have h : fX12_ranked_l38 p0 m3 v5 v28 v29 = some o := h
            intro H locs ls hP hS hl
            have hP : va_P g.1 vwCl (dws g m3) H := hP
            have hl : lv_has ls 5 [(4, .int v28), (3, .int v29), (2, .int v5), (0, .ref (dad g p0)), (1, .int p1)] := hl
            unfold fX12_ranked_l38 at h
            refine lv_iload S.1 S.2.1 dX12_ranked_38 (lv_at hl 0 rfl) ?_
            refine lv_bipush (v := 6) S.1 S.2.1 dX12_ranked_40 (by decide) ?_
            refine lv_icmp_ge (tgt := 75) S.1 S.2.1 dX12_ranked_42 (by decide) (fun cq => ?_) (fun cq => ?_)
            · have h := d_t cq h
              obtain rfl := Option.some.inj h
              exact hEL27 _ rfl H locs ls hP hS (lv_sub hl [3, 4, 2, 1] rfl)
            · have h := d_f cq h
              refine lv_iload_n S.1 S.2.1 dX12_ranked_45 rfl (lv_at hl 1 rfl) ?_
              refine lv_iload S.1 S.2.1 dX12_ranked_46 (lv_at hl 0 rfl) ?_
              refine lv_iload_n S.1 S.2.1 dX12_ranked_48 rfl (lv_at hl 2 rfl) ?_
              refine lv_icmp_eq (tgt := 66) S.1 S.2.1 dX12_ranked_49 (by decide) (fun cq => ?_) (fun cq => ?_)
              · have h := d_t cq h
                refine lv_iconst (v := 0) S.1 S.2.1 dX12_ranked_66 (by decide) ?_
                refine lv_iadd S.1 S.2.1 dX12_ranked_67 ?_
                refine lv_topi (fun v38 ev38 => ?_)
                have h := d_let ev38 h
                refine lv_istore_n (lv' := [(3, .int v38), (4, .int v28), (2, .int v5), (0, .ref (dad g p0)), (1, .int p1)]) S.1 S.2.1 dX12_ranked_68 rfl hl (by decide) rfl (fun ls hl => ?_)
                obtain ⟨v39, ev39⟩ : ∃ z : Int32, z = v28 + 1 := ⟨_, rfl⟩
                have h := d_let ev39 h
                refine lv_iinc (v := v39) (lv' := [(4, .int v39), (3, .int v38), (2, .int v5), (0, .ref (dad g p0)), (1, .int p1)]) S.1 S.2.1 dX12_ranked_69 hl (k := 1) rfl (by rw [ev39]; rfl) (by decide) rfl (fun ls hl => ?_)
                refine lv_goto (tgt := 38) S.1 S.2.1 dX12_ranked_72 (by decide) ?_
                obtain rfl := Option.some.inj h
                exact hCL27 _ rfl H locs ls hP hS (lv_sub hl [0, 1, 2, 3, 4] rfl)
              · have h := d_f cq h
                refine lv_aload_n S.1 S.2.1 dX12_ranked_52 rfl (lv_at hl 3 rfl) ?_
                refine lv_iload S.1 S.2.1 dX12_ranked_53 (lv_at hl 0 rfl) ?_
                refine lv_iload_n S.1 S.2.1 dX12_ranked_55 rfl (lv_at hl 2 rfl) ?_
                obtain ⟨v41, hc40, h⟩ := d_b h
                refine dri (va_runV (As := [.int v28, .int v5]) (rest := [.int v29]) S (kX12_isAhead l g hc40) (cwV 2 S.2.2.2.2 gX12_ranked_X12_isAhead rfl rfl rfl ynX12_isAhead ⟨Nat.le_of_ble_eq_true rfl, Nat.le_of_ble_eq_true rfl⟩) (dpV hE hP hS (ci := 12) rfl (dat13 k0)) rfl rfl hl.1 rfl (lv_room (Nat.le_of_ble_eq_true rfl)) dX12_ranked_56 ⟨Nat.le_of_ble_eq_true rfl, Nat.le_of_ble_eq_true rfl⟩) hS (fun H locs hP hS => ?_)
                refine lv_if_eq (tgt := 66) S.1 S.2.1 dX12_ranked_59 (by decide) (fun cq => ?_) (fun cq => ?_)
                · have h := d_t cq h
                  refine lv_iconst (v := 0) S.1 S.2.1 dX12_ranked_66 (by decide) ?_
                  refine lv_iadd S.1 S.2.1 dX12_ranked_67 ?_
                  refine lv_topi (fun v42 ev42 => ?_)
                  have h := d_let ev42 h
                  refine lv_istore_n (lv' := [(3, .int v42), (4, .int v28), (2, .int v5), (0, .ref (dad g p0)), (1, .int p1)]) S.1 S.2.1 dX12_ranked_68 rfl hl (by decide) rfl (fun ls hl => ?_)
                  obtain ⟨v43, ev43⟩ : ∃ z : Int32, z = v28 + 1 := ⟨_, rfl⟩
                  have h := d_let ev43 h
                  refine lv_iinc (v := v43) (lv' := [(4, .int v43), (3, .int v42), (2, .int v5), (0, .ref (dad g p0)), (1, .int p1)]) S.1 S.2.1 dX12_ranked_69 hl (k := 1) rfl (by rw [ev43]; rfl) (by decide) rfl (fun ls hl => ?_)
                  refine lv_goto (tgt := 38) S.1 S.2.1 dX12_ranked_72 (by decide) ?_
                  obtain rfl := Option.some.inj h
                  exact hCL27 _ rfl H locs ls hP hS (lv_sub hl [0, 1, 2, 3, 4] rfl)
                · have h := d_f cq h
                  refine lv_iconst (v := 1) S.1 S.2.1 dX12_ranked_62 (by decide) ?_
                  refine lv_goto (tgt := 67) S.1 S.2.1 dX12_ranked_63 (by decide) ?_
                  refine lv_iadd S.1 S.2.1 dX12_ranked_67 ?_
                  refine lv_topi (fun v44 ev44 => ?_)
                  have h := d_let ev44 h
                  refine lv_istore_n (lv' := [(3, .int v44), (4, .int v28), (2, .int v5), (0, .ref (dad g p0)), (1, .int p1)]) S.1 S.2.1 dX12_ranked_68 rfl hl (by decide) rfl (fun ls hl => ?_)
                  obtain ⟨v45, ev45⟩ : ∃ z : Int32, z = v28 + 1 := ⟨_, rfl⟩
                  have h := d_let ev45 h
                  refine lv_iinc (v := v45) (lv' := [(4, .int v45), (3, .int v44), (2, .int v5), (0, .ref (dad g p0)), (1, .int p1)]) S.1 S.2.1 dX12_ranked_69 hl (k := 1) rfl (by rw [ev45]; rfl) (by decide) rfl (fun ls hl => ?_)
                  refine lv_goto (tgt := 38) S.1 S.2.1 dX12_ranked_72 (by decide) ?_
                  obtain rfl := Option.some.inj h
                  exact hCL27 _ rfl H locs ls hP hS (lv_sub hl [0, 1, 2, 3, 4] rfl)
          · obtain ⟨v46, rfl⟩ : ∃ z, z = qL27 := ⟨_, rfl⟩
            have h := d_p1 h
            intro H locs ls hP hS hl
            have hP : va_P g.1 vwCl (dws g m3) H := hP
            have hl : lv_has ls 5 [(0, .ref (dad g p0)), (1, .int p1), (2, .int v5), (3, .int v46)] := hl
            refine lv_iload_n S.1 S.2.1 dX12_ranked_75 rfl (lv_at hl 3 rfl) ?_
            refine lv_iload_n S.1 S.2.1 dX12_ranked_76 rfl (lv_at hl 1 rfl) ?_
            refine lv_icmp_ne (tgt := 82) S.1 S.2.1 dX12_ranked_77 (by decide) (fun cq => ?_) (fun cq => ?_)
            · have h := d_f cq h
              obtain ⟨v47, ev47⟩ : ∃ z : Int32, z = v5 + 1 := ⟨_, rfl⟩
              have h := d_let ev47 h
              refine lv_iinc (v := v47) (lv' := [(2, .int v47), (0, .ref (dad g p0)), (1, .int p1), (3, .int v46)]) S.1 S.2.1 dX12_ranked_82 hl (k := 2) rfl (by rw [ev47]; rfl) (by decide) rfl (fun ls hl => ?_)
              refine lv_goto (tgt := 20) S.1 S.2.1 dX12_ranked_85 (by decide) ?_
              obtain rfl := Option.some.inj h
              exact hCL4 _ rfl H locs ls hP hS (lv_sub hl [0, 1, 2] rfl)
            · have h := d_t cq h
              obtain rfl := Option.some.inj h
              exact hEL4 _ rfl H locs ls hP hS (lv_sub hl [2] rfl)
    · rcases qL4 with qL4a | qL4b
      · have h := d_s1 h
        obtain ⟨v48, rfl⟩ : ∃ z, z = qL4a := ⟨_, rfl⟩
        have h := d_p1 h
        intro H locs ls hP hS hl
        have hP : va_P g.1 vwCl (dws g m3) H := hP
        have hl : lv_has ls 5 [(2, .int v48)] := hl
        refine lv_iload_n S.1 S.2.1 dX12_ranked_80 rfl (lv_at hl 0 rfl) ?_
        obtain ⟨rfl, rfl⟩ := Prod.mk.inj (Option.some.inj h)
        exact dti S hr hlk hE hP hS rfl dX12_ranked_81
      · have h := d_s2 h
        intro H locs ls hP hS hl
        have hP : va_P g.1 vwCl (dws g m3) H := hP
        have hl : lv_has ls 5 [] := hl
        refine lv_iconst (v := 0) S.1 S.2.1 dX12_ranked_88 (by decide) ?_
        obtain ⟨rfl, rfl⟩ := Prod.mk.inj (Option.some.inj h)
        exact dti S hr hlk hE hP hS rfl dX12_ranked_89
  · have h := d_f cq h
    refine lv_iconst (v := 0) S.1 S.2.1 dX12_ranked_10 (by decide) ?_
    refine lv_goto (tgt := 15) S.1 S.2.1 dX12_ranked_11 (by decide) ?_
    refine dpf12_25 S in12 hE hP hS k0 (S.2.2.2.2 (.fieldLink RX12 76 "DrillFieldModel" "thrown" "I") (List.mem_of_getElem? (i := 1) rfl)) dX12_ranked_15 (fun H locs hP hS => ?_)
    obtain ⟨m49, em49⟩ : ∃ z : dM, z = d1 m p0 25 0 := ⟨_, rfl⟩
    have h := d_let em49 h
    rw [← em49] at hP
    refine lv_iconst (v := 0) S.1 S.2.1 dX12_ranked_18 (by decide) ?_
    refine lv_istore_n (lv' := [(2, .int 0), (0, .ref (dad g p0)), (1, .int p1)]) S.1 S.2.1 dX12_ranked_19 rfl hl (by decide) rfl (fun ls hl => ?_)
    obtain ⟨qL50, hqL50, h⟩ := d_b h
    refine d_lp (Hd := fun q => (fun (v51 : _) => ∀ (H : Heap) (locs : List Loc) (ls : Array Slot), va_P g.1 vwCl (dws g m49) H → va_S (dA g) s.heap H locs → lv_has ls 5 [(2, .int v51), (0, .ref (dad g p0)), (1, .int p1)] → W p l e (headSpec wsX12_ranked (dRm 3 71)).room s mth (([.ref (dad g p0), .int p1] : List Value).toArray) below meth c H locs 0 0 (MQ below (dQI g r0 m0) (([.ref (dad g p0), .int p1] : List Value).toArray) s 0 0 (dA g)) (F0 mth 20 ls [])) q) (K := fun q => match q with | .inl q => (fun (v94 : _) => ∀ (H : Heap) (locs : List Loc) (ls : Array Slot), va_P g.1 vwCl (dws g m49) H → va_S (dA g) s.heap H locs → lv_has ls 5 [(2, .int v94)] → W p l e (headSpec wsX12_ranked (dRm 3 71)).room s mth (([.ref (dad g p0), .int p1] : List Value).toArray) below meth c H locs 0 0 (MQ below (dQI g r0 m0) (([.ref (dad g p0), .int p1] : List Value).toArray) s 0 0 (dA g)) (F0 mth 80 ls [])) q | .inr q => ∀ (H : Heap) (locs : List Loc) (ls : Array Slot), va_P g.1 vwCl (dws g m49) H → va_S (dA g) s.heap H locs → lv_has ls 5 [] → W p l e (headSpec wsX12_ranked (dRm 3 71)).room s mth (([.ref (dad g p0), .int p1] : List Value).toArray) below meth c H locs 0 0 (MQ below (dQI g r0 m0) (([.ref (dad g p0), .int p1] : List Value).toArray) s 0 0 (dA g)) (F0 mth 88 ls [])) ?_ dFl _ qL50 hqL50 ?_ H locs ls hP hS (lv_sub hl [0, 1, 2] rfl)
    · intro q o h hCL50 hEL50
      obtain ⟨v51, rfl⟩ : ∃ z, z = q := ⟨_, rfl⟩
      have h : fX12_ranked_l20_2 p0 p1 m49 v51 = some o := h
      intro H locs ls hP hS hl
      have hP : va_P g.1 vwCl (dws g m49) H := hP
      have hl : lv_has ls 5 [(2, .int v51), (0, .ref (dad g p0)), (1, .int p1)] := hl
      unfold fX12_ranked_l20_2 at h
      refine lv_iload_n S.1 S.2.1 dX12_ranked_20 rfl (lv_at hl 0 rfl) ?_
      refine lv_bipush (v := 6) S.1 S.2.1 dX12_ranked_21 (by decide) ?_
      refine lv_icmp_ge (tgt := 88) S.1 S.2.1 dX12_ranked_23 (by decide) (fun cq => ?_) (fun cq => ?_)
      · have h := d_t cq h
        obtain rfl := Option.some.inj h
        exact hEL50 _ rfl H locs ls hP hS (lv_sub hl [] rfl)
      · have h := d_f cq h
        refine lv_aload_n S.1 S.2.1 dX12_ranked_26 rfl (lv_at hl 1 rfl) ?_
        refine dgf12_25 S in12 hE hP k0 (S.2.2.2.2 (.fieldLink RX12 76 "DrillFieldModel" "thrown" "I") (List.mem_of_getElem? (i := 1) rfl)) dX12_ranked_27 ?_
        refine lv_if_ne (tgt := 88) S.1 S.2.1 dX12_ranked_30 (by decide) (fun cq => ?_) (fun cq => ?_)
        · have h := d_f cq h
          obtain rfl := Option.some.inj h
          exact hEL50 _ rfl H locs ls hP hS (lv_sub hl [] rfl)
        · have h := d_t cq h
          refine lv_iconst (v := 0) S.1 S.2.1 dX12_ranked_33 (by decide) ?_
          refine lv_istore_n (lv' := [(3, .int 0), (2, .int v51), (0, .ref (dad g p0)), (1, .int p1)]) S.1 S.2.1 dX12_ranked_34 rfl hl (by decide) rfl (fun ls hl => ?_)
          refine lv_iconst (v := 0) S.1 S.2.1 dX12_ranked_35 (by decide) ?_
          refine lv_istore (lv' := [(4, .int 0), (3, .int 0), (2, .int v51), (0, .ref (dad g p0)), (1, .int p1)]) S.1 S.2.1 dX12_ranked_36 hl (by decide) rfl (fun ls hl => ?_)
          obtain ⟨qL73, hqL73, h⟩ := d_b h
          refine d_lp (Hd := fun q => match q with | (v74, v75) => ∀ (H : Heap) (locs : List Loc) (ls : Array Slot), va_P g.1 vwCl (dws g m49) H → va_S (dA g) s.heap H locs → lv_has ls 5 [(4, .int v74), (3, .int v75), (2, .int v51), (0, .ref (dad g p0)), (1, .int p1)] → W p l e (headSpec wsX12_ranked (dRm 3 71)).room s mth (([.ref (dad g p0), .int p1] : List Value).toArray) below meth c H locs 0 0 (MQ below (dQI g r0 m0) (([.ref (dad g p0), .int p1] : List Value).toArray) s 0 0 (dA g)) (F0 mth 38 ls [])) (K := fun q => (fun (v92 : _) => ∀ (H : Heap) (locs : List Loc) (ls : Array Slot), va_P g.1 vwCl (dws g m49) H → va_S (dA g) s.heap H locs → lv_has ls 5 [(0, .ref (dad g p0)), (1, .int p1), (2, .int v51), (3, .int v92)] → W p l e (headSpec wsX12_ranked (dRm 3 71)).room s mth (([.ref (dad g p0), .int p1] : List Value).toArray) below meth c H locs 0 0 (MQ below (dQI g r0 m0) (([.ref (dad g p0), .int p1] : List Value).toArray) s 0 0 (dA g)) (F0 mth 75 ls [])) q) ?_ dFl _ qL73 hqL73 ?_ H locs ls hP hS (lv_sub hl [0, 1, 2, 3, 4] rfl)
          · intro q o h hCL73 hEL73
            obtain ⟨v74, v75⟩ := q
            have h : fX12_ranked_l38_2 p0 m49 v51 v74 v75 = some o := h
            intro H locs ls hP hS hl
            have hP : va_P g.1 vwCl (dws g m49) H := hP
            have hl : lv_has ls 5 [(4, .int v74), (3, .int v75), (2, .int v51), (0, .ref (dad g p0)), (1, .int p1)] := hl
            unfold fX12_ranked_l38_2 at h
            refine lv_iload S.1 S.2.1 dX12_ranked_38 (lv_at hl 0 rfl) ?_
            refine lv_bipush (v := 6) S.1 S.2.1 dX12_ranked_40 (by decide) ?_
            refine lv_icmp_ge (tgt := 75) S.1 S.2.1 dX12_ranked_42 (by decide) (fun cq => ?_) (fun cq => ?_)
            · have h := d_t cq h
              obtain rfl := Option.some.inj h
              exact hEL73 _ rfl H locs ls hP hS (lv_sub hl [3, 4, 2, 1] rfl)
            · have h := d_f cq h
              refine lv_iload_n S.1 S.2.1 dX12_ranked_45 rfl (lv_at hl 1 rfl) ?_
              refine lv_iload S.1 S.2.1 dX12_ranked_46 (lv_at hl 0 rfl) ?_
              refine lv_iload_n S.1 S.2.1 dX12_ranked_48 rfl (lv_at hl 2 rfl) ?_
              refine lv_icmp_eq (tgt := 66) S.1 S.2.1 dX12_ranked_49 (by decide) (fun cq => ?_) (fun cq => ?_)
              · have h := d_t cq h
                refine lv_iconst (v := 0) S.1 S.2.1 dX12_ranked_66 (by decide) ?_
                refine lv_iadd S.1 S.2.1 dX12_ranked_67 ?_
                refine lv_topi (fun v84 ev84 => ?_)
                have h := d_let ev84 h
                refine lv_istore_n (lv' := [(3, .int v84), (4, .int v74), (2, .int v51), (0, .ref (dad g p0)), (1, .int p1)]) S.1 S.2.1 dX12_ranked_68 rfl hl (by decide) rfl (fun ls hl => ?_)
                obtain ⟨v85, ev85⟩ : ∃ z : Int32, z = v74 + 1 := ⟨_, rfl⟩
                have h := d_let ev85 h
                refine lv_iinc (v := v85) (lv' := [(4, .int v85), (3, .int v84), (2, .int v51), (0, .ref (dad g p0)), (1, .int p1)]) S.1 S.2.1 dX12_ranked_69 hl (k := 1) rfl (by rw [ev85]; rfl) (by decide) rfl (fun ls hl => ?_)
                refine lv_goto (tgt := 38) S.1 S.2.1 dX12_ranked_72 (by decide) ?_
                obtain rfl := Option.some.inj h
                exact hCL73 _ rfl H locs ls hP hS (lv_sub hl [0, 1, 2, 3, 4] rfl)
              · have h := d_f cq h
                refine lv_aload_n S.1 S.2.1 dX12_ranked_52 rfl (lv_at hl 3 rfl) ?_
                refine lv_iload S.1 S.2.1 dX12_ranked_53 (lv_at hl 0 rfl) ?_
                refine lv_iload_n S.1 S.2.1 dX12_ranked_55 rfl (lv_at hl 2 rfl) ?_
                obtain ⟨v87, hc86, h⟩ := d_b h
                refine dri (va_runV (As := [.int v74, .int v51]) (rest := [.int v75]) S (kX12_isAhead l g hc86) (cwV 2 S.2.2.2.2 gX12_ranked_X12_isAhead rfl rfl rfl ynX12_isAhead ⟨Nat.le_of_ble_eq_true rfl, Nat.le_of_ble_eq_true rfl⟩) (dpV hE hP hS (ci := 12) rfl (dat13 k0)) rfl rfl hl.1 rfl (lv_room (Nat.le_of_ble_eq_true rfl)) dX12_ranked_56 ⟨Nat.le_of_ble_eq_true rfl, Nat.le_of_ble_eq_true rfl⟩) hS (fun H locs hP hS => ?_)
                refine lv_if_eq (tgt := 66) S.1 S.2.1 dX12_ranked_59 (by decide) (fun cq => ?_) (fun cq => ?_)
                · have h := d_t cq h
                  refine lv_iconst (v := 0) S.1 S.2.1 dX12_ranked_66 (by decide) ?_
                  refine lv_iadd S.1 S.2.1 dX12_ranked_67 ?_
                  refine lv_topi (fun v88 ev88 => ?_)
                  have h := d_let ev88 h
                  refine lv_istore_n (lv' := [(3, .int v88), (4, .int v74), (2, .int v51), (0, .ref (dad g p0)), (1, .int p1)]) S.1 S.2.1 dX12_ranked_68 rfl hl (by decide) rfl (fun ls hl => ?_)
                  obtain ⟨v89, ev89⟩ : ∃ z : Int32, z = v74 + 1 := ⟨_, rfl⟩
                  have h := d_let ev89 h
                  refine lv_iinc (v := v89) (lv' := [(4, .int v89), (3, .int v88), (2, .int v51), (0, .ref (dad g p0)), (1, .int p1)]) S.1 S.2.1 dX12_ranked_69 hl (k := 1) rfl (by rw [ev89]; rfl) (by decide) rfl (fun ls hl => ?_)
                  refine lv_goto (tgt := 38) S.1 S.2.1 dX12_ranked_72 (by decide) ?_
                  obtain rfl := Option.some.inj h
                  exact hCL73 _ rfl H locs ls hP hS (lv_sub hl [0, 1, 2, 3, 4] rfl)
                · have h := d_f cq h
                  refine lv_iconst (v := 1) S.1 S.2.1 dX12_ranked_62 (by decide) ?_
                  refine lv_goto (tgt := 67) S.1 S.2.1 dX12_ranked_63 (by decide) ?_
                  refine lv_iadd S.1 S.2.1 dX12_ranked_67 ?_
                  refine lv_topi (fun v90 ev90 => ?_)
                  have h := d_let ev90 h
                  refine lv_istore_n (lv' := [(3, .int v90), (4, .int v74), (2, .int v51), (0, .ref (dad g p0)), (1, .int p1)]) S.1 S.2.1 dX12_ranked_68 rfl hl (by decide) rfl (fun ls hl => ?_)
                  obtain ⟨v91, ev91⟩ : ∃ z : Int32, z = v74 + 1 := ⟨_, rfl⟩
                  have h := d_let ev91 h
                  refine lv_iinc (v := v91) (lv' := [(4, .int v91), (3, .int v90), (2, .int v51), (0, .ref (dad g p0)), (1, .int p1)]) S.1 S.2.1 dX12_ranked_69 hl (k := 1) rfl (by rw [ev91]; rfl) (by decide) rfl (fun ls hl => ?_)
                  refine lv_goto (tgt := 38) S.1 S.2.1 dX12_ranked_72 (by decide) ?_
                  obtain rfl := Option.some.inj h
                  exact hCL73 _ rfl H locs ls hP hS (lv_sub hl [0, 1, 2, 3, 4] rfl)
          · obtain ⟨v92, rfl⟩ : ∃ z, z = qL73 := ⟨_, rfl⟩
            have h := d_p1 h
            intro H locs ls hP hS hl
            have hP : va_P g.1 vwCl (dws g m49) H := hP
            have hl : lv_has ls 5 [(0, .ref (dad g p0)), (1, .int p1), (2, .int v51), (3, .int v92)] := hl
            refine lv_iload_n S.1 S.2.1 dX12_ranked_75 rfl (lv_at hl 3 rfl) ?_
            refine lv_iload_n S.1 S.2.1 dX12_ranked_76 rfl (lv_at hl 1 rfl) ?_
            refine lv_icmp_ne (tgt := 82) S.1 S.2.1 dX12_ranked_77 (by decide) (fun cq => ?_) (fun cq => ?_)
            · have h := d_f cq h
              obtain ⟨v93, ev93⟩ : ∃ z : Int32, z = v51 + 1 := ⟨_, rfl⟩
              have h := d_let ev93 h
              refine lv_iinc (v := v93) (lv' := [(2, .int v93), (0, .ref (dad g p0)), (1, .int p1), (3, .int v92)]) S.1 S.2.1 dX12_ranked_82 hl (k := 2) rfl (by rw [ev93]; rfl) (by decide) rfl (fun ls hl => ?_)
              refine lv_goto (tgt := 20) S.1 S.2.1 dX12_ranked_85 (by decide) ?_
              obtain rfl := Option.some.inj h
              exact hCL50 _ rfl H locs ls hP hS (lv_sub hl [0, 1, 2] rfl)
            · have h := d_t cq h
              obtain rfl := Option.some.inj h
              exact hEL50 _ rfl H locs ls hP hS (lv_sub hl [2] rfl)
    · rcases qL50 with qL50a | qL50b
      · have h := d_s1 h
        obtain ⟨v94, rfl⟩ : ∃ z, z = qL50a := ⟨_, rfl⟩
        have h := d_p1 h
        intro H locs ls hP hS hl
        have hP : va_P g.1 vwCl (dws g m49) H := hP
        have hl : lv_has ls 5 [(2, .int v94)] := hl
        refine lv_iload_n S.1 S.2.1 dX12_ranked_80 rfl (lv_at hl 0 rfl) ?_
        obtain ⟨rfl, rfl⟩ := Prod.mk.inj (Option.some.inj h)
        exact dti S hr hlk hE hP hS rfl dX12_ranked_81
      · have h := d_s2 h
        intro H locs ls hP hS hl
        have hP : va_P g.1 vwCl (dws g m49) H := hP
        have hl : lv_has ls 5 [] := hl
        refine lv_iconst (v := 0) S.1 S.2.1 dX12_ranked_88 (by decide) ?_
        obtain ⟨rfl, rfl⟩ := Prod.mk.inj (Option.some.inj h)
        exact dti S hr hlk hE hP hS rfl dX12_ranked_89
set_option maxRecDepth 20000 in
theorem ggX12_rehearse_X12_isIn : GoodIn wsX12_rehearse wsX12_isIn := goodIn_r _ [5] (by decide +kernel) (by decide +kernel)
set_option maxRecDepth 20000 in
theorem gX12_rehearse_X12_isIn : GoodIn wsX12_rehearse (va_wsS RX12 79 yX12_isIn wsX12_isIn) := goodIn_app (goodIn_of _ (by decide +kernel)) ggX12_rehearse_X12_isIn
theorem dX12_rehearse_0 : decode cX12_rehearse 0 = .ok (.aload_n 0, 1) := by decide +kernel
theorem dX12_rehearse_1 : decode cX12_rehearse 1 = .ok (.iload_n 1, 1) := by decide +kernel
theorem dX12_rehearse_2 : decode cX12_rehearse 2 = .ok (.iconst 1, 1) := by decide +kernel
theorem dX12_rehearse_3 : decode cX12_rehearse 3 = .ok (.sipush 9999, 3) := by decide +kernel
theorem dX12_rehearse_6 : decode cX12_rehearse 6 = .ok (.invokestatic 79, 3) := by decide +kernel
theorem dX12_rehearse_9 : decode cX12_rehearse 9 = .ok (.ifCond .eq 17, 3) := by decide +kernel
theorem dX12_rehearse_12 : decode cX12_rehearse 12 = .ok (.iload_n 2, 1) := by decide +kernel
theorem dX12_rehearse_13 : decode cX12_rehearse 13 = .ok (.iconst 0, 1) := by decide +kernel
theorem dX12_rehearse_14 : decode cX12_rehearse 14 = .ok (.bipush 60, 2) := by decide +kernel
theorem dX12_rehearse_16 : decode cX12_rehearse 16 = .ok (.invokestatic 79, 3) := by decide +kernel
theorem dX12_rehearse_19 : decode cX12_rehearse 19 = .ok (.ifCond .eq 7, 3) := by decide +kernel
theorem dX12_rehearse_22 : decode cX12_rehearse 22 = .ok (.iconst 0, 1) := by decide +kernel
theorem dX12_rehearse_23 : decode cX12_rehearse 23 = .ok (.goto 4, 3) := by decide +kernel
theorem dX12_rehearse_26 : decode cX12_rehearse 26 = .ok (.iconst 1, 1) := by decide +kernel
theorem dX12_rehearse_27 : decode cX12_rehearse 27 = .ok (.putfield 76, 3) := by decide +kernel
theorem dX12_rehearse_30 : decode cX12_rehearse 30 = .ok (.aload_n 0, 1) := by decide +kernel
theorem dX12_rehearse_31 : decode cX12_rehearse 31 = .ok (.getfield 76, 3) := by decide +kernel
theorem dX12_rehearse_34 : decode cX12_rehearse 34 = .ok (.ifCond .le 5, 3) := by decide +kernel
theorem dX12_rehearse_37 : decode cX12_rehearse 37 = .ok (.iconst 0, 1) := by decide +kernel
theorem dX12_rehearse_38 : decode cX12_rehearse 38 = .ok (.ireturn, 1) := by decide +kernel
theorem dX12_rehearse_39 : decode cX12_rehearse 39 = .ok (.iload_n 2, 1) := by decide +kernel
theorem dX12_rehearse_40 : decode cX12_rehearse 40 = .ok (.bipush 36, 2) := by decide +kernel
theorem dX12_rehearse_42 : decode cX12_rehearse 42 = .ok (.if_icmp .lt 5, 3) := by decide +kernel
theorem dX12_rehearse_45 : decode cX12_rehearse 45 = .ok (.iconst (-1), 1) := by decide +kernel
theorem dX12_rehearse_46 : decode cX12_rehearse 46 = .ok (.ireturn, 1) := by decide +kernel
theorem dX12_rehearse_47 : decode cX12_rehearse 47 = .ok (.iload_n 2, 1) := by decide +kernel
theorem dX12_rehearse_48 : decode cX12_rehearse 48 = .ok (.bipush 28, 2) := by decide +kernel
theorem dX12_rehearse_50 : decode cX12_rehearse 50 = .ok (.if_icmp .ge 8, 3) := by decide +kernel
theorem dX12_rehearse_53 : decode cX12_rehearse 53 = .ok (.bipush 50, 2) := by decide +kernel
theorem dX12_rehearse_55 : decode cX12_rehearse 55 = .ok (.goto 16, 3) := by decide +kernel
theorem dX12_rehearse_58 : decode cX12_rehearse 58 = .ok (.iload_n 2, 1) := by decide +kernel
theorem dX12_rehearse_59 : decode cX12_rehearse 59 = .ok (.bipush 32, 2) := by decide +kernel
theorem dX12_rehearse_61 : decode cX12_rehearse 61 = .ok (.if_icmp .ge 8, 3) := by decide +kernel
theorem dX12_rehearse_64 : decode cX12_rehearse 64 = .ok (.bipush 30, 2) := by decide +kernel
theorem dX12_rehearse_66 : decode cX12_rehearse 66 = .ok (.goto 5, 3) := by decide +kernel
theorem dX12_rehearse_69 : decode cX12_rehearse 69 = .ok (.bipush 20, 2) := by decide +kernel
theorem dX12_rehearse_71 : decode cX12_rehearse 71 = .ok (.istore_n 3, 1) := by decide +kernel
theorem dX12_rehearse_72 : decode cX12_rehearse 72 = .ok (.iload_n 2, 1) := by decide +kernel
theorem dX12_rehearse_73 : decode cX12_rehearse 73 = .ok (.bipush 32, 2) := by decide +kernel
theorem dX12_rehearse_75 : decode cX12_rehearse 75 = .ok (.if_icmp .ge 8, 3) := by decide +kernel
theorem dX12_rehearse_78 : decode cX12_rehearse 78 = .ok (.bipush 10, 2) := by decide +kernel
theorem dX12_rehearse_80 : decode cX12_rehearse 80 = .ok (.goto 5, 3) := by decide +kernel
theorem dX12_rehearse_83 : decode cX12_rehearse 83 = .ok (.bipush 20, 2) := by decide +kernel
theorem dX12_rehearse_85 : decode cX12_rehearse 85 = .ok (.istore 4, 2) := by decide +kernel
theorem dX12_rehearse_87 : decode cX12_rehearse 87 = .ok (.iload_n 1, 1) := by decide +kernel
theorem dX12_rehearse_88 : decode cX12_rehearse 88 = .ok (.iload_n 1, 1) := by decide +kernel
theorem dX12_rehearse_89 : decode cX12_rehearse 89 = .ok (.iconst 1, 1) := by decide +kernel
theorem dX12_rehearse_90 : decode cX12_rehearse 90 = .ok (.isub, 1) := by decide +kernel
theorem dX12_rehearse_91 : decode cX12_rehearse 91 = .ok (.iload_n 3, 1) := by decide +kernel
theorem dX12_rehearse_92 : decode cX12_rehearse 92 = .ok (.idiv, 1) := by decide +kernel
theorem dX12_rehearse_93 : decode cX12_rehearse 93 = .ok (.iload 4, 2) := by decide +kernel
theorem dX12_rehearse_95 : decode cX12_rehearse 95 = .ok (.imul, 1) := by decide +kernel
theorem dX12_rehearse_96 : decode cX12_rehearse 96 = .ok (.iadd, 1) := by decide +kernel
theorem dX12_rehearse_97 : decode cX12_rehearse 97 = .ok (.ireturn, 1) := by decide +kernel
def fX12_rehearse (m : dM) (p0 : Nat) (p1 : Int32) (p2 : Int32) : Option (Int32 × dM) := dg (dkg p0 13) ((fX12_isIn m p1 1 9999).bind (fun v2 => if v2 = 0 then dlet (d1 m p0 25 1) (fun m3 => some (0, m3)) else (fX12_isIn m p2 0 60).bind (fun v5 => if v5 = 0 then dlet (d1 m p0 25 1) (fun m6 => some (0, m6)) else dlet (d1 m p0 25 0) (fun m7 => if p2 < 36 then if 28 ≤ p2 then if 32 ≤ p2 then if 32 ≤ p2 then some (p1 + (((p1 - 1) / 20) * 20), m7) else some (p1 + (((p1 - 1) / 20) * 10), m7) else if 32 ≤ p2 then some (p1 + (((p1 - 1) / 30) * 20), m7) else some (p1 + (((p1 - 1) / 30) * 10), m7) else if 32 ≤ p2 then some (p1 + (((p1 - 1) / 50) * 20), m7) else some (p1 + (((p1 - 1) / 50) * 10), m7) else some ((-1), m7)))))
set_option maxHeartbeats 4000000 in
set_option maxRecDepth 100000 in
theorem kX12_rehearse (l : Launch) (g : dG) {m : dM} {p0 : Nat} {p1 : Int32} {p2 : Int32} {r0 : Int32} {m0 : dM} (h : fX12_rehearse m p0 p1 p2 = some (r0, m0)) : dMet l g yX12_rehearse wsX12_rehearse (dRm 1 22) [.ref (dad g p0), .int p1, .int p2] m (dQI g r0 m0) := by
  refine dof (cc := cX12_rehearse) (maxL := 5) (ret := (some .int)) _ (plainFor_of_name (by decide)) rfl (Nat.le_of_ble_eq_true rfl) ?_
  intro p e s mth below meth c S hr hlk hE H ls hP hS hl
  have S : CallFix p mth c cX12_rehearse 5 s _ wsX12_rehearse RX12 := S
  have hl : lv_has ls 5 [(0, .ref (dad g p0)), (1, .int p1), (2, .int p2)] := hl
  obtain ⟨locs, hlocs⟩ : ∃ z : List Loc, z = [] := ⟨_, rfl⟩
  rw [← hlocs] at hS ⊢
  have in12 : ∀ w ∈ wsX120, w ∈ wsX12_rehearse := by decide +kernel
  unfold fX12_rehearse at h
  obtain ⟨k0, h⟩ := d_g h
  have k0 := d_k k0
  refine lv_aload_n S.1 S.2.1 dX12_rehearse_0 rfl (lv_at hl 0 rfl) ?_
  refine lv_iload_n S.1 S.2.1 dX12_rehearse_1 rfl (lv_at hl 1 rfl) ?_
  refine lv_iconst (v := 1) S.1 S.2.1 dX12_rehearse_2 (by decide) ?_
  refine lv_sipush (v := 9999) S.1 S.2.1 dX12_rehearse_3 (by decide) ?_
  obtain ⟨v2, hc1, h⟩ := d_b h
  refine dri (va_runS (As := [.int p1, .int 1, .int 9999]) (rest := [.ref (dad g p0)]) S (kX12_isIn l g hc1) (va_cwS 3 S.2.2.2.2 gX12_rehearse_X12_isIn rfl rfl rfl ynX12_isIn ⟨Nat.le_of_ble_eq_true rfl, Nat.le_of_ble_eq_true rfl⟩) (dpS hE hP hS) rfl rfl hl.1 rfl (lv_room (Nat.le_of_ble_eq_true rfl)) dX12_rehearse_6 ⟨Nat.le_of_ble_eq_true rfl, Nat.le_of_ble_eq_true rfl⟩) hS (fun H locs hP hS => ?_)
  refine lv_if_eq (tgt := 26) S.1 S.2.1 dX12_rehearse_9 (by decide) (fun cq => ?_) (fun cq => ?_)
  · have h := d_t cq h
    refine lv_iconst (v := 1) S.1 S.2.1 dX12_rehearse_26 (by decide) ?_
    refine dpf12_25 S in12 hE hP hS k0 (S.2.2.2.2 (.fieldLink RX12 76 "DrillFieldModel" "thrown" "I") (List.mem_of_getElem? (i := 1) rfl)) dX12_rehearse_27 (fun H locs hP hS => ?_)
    obtain ⟨m3, em3⟩ : ∃ z : dM, z = d1 m p0 25 1 := ⟨_, rfl⟩
    have h := d_let em3 h
    rw [← em3] at hP
    refine lv_aload_n S.1 S.2.1 dX12_rehearse_30 rfl (lv_at hl 0 rfl) ?_
    refine dgf12_25 S in12 hE hP k0 (S.2.2.2.2 (.fieldLink RX12 76 "DrillFieldModel" "thrown" "I") (List.mem_of_getElem? (i := 1) rfl)) dX12_rehearse_31 ?_
    refine d_top (v := 1) (by rw [em3]; exact d1_get) ?_
    refine lv_if_le (tgt := 39) S.1 S.2.1 dX12_rehearse_34 (by decide) (fun cq => ?_) (fun cq => ?_)
    · exact absurd cq (by decide)
    · refine lv_iconst (v := 0) S.1 S.2.1 dX12_rehearse_37 (by decide) ?_
      obtain ⟨rfl, rfl⟩ := Prod.mk.inj (Option.some.inj h)
      exact dti S hr hlk hE hP hS rfl dX12_rehearse_38
  · have h := d_f cq h
    refine lv_iload_n S.1 S.2.1 dX12_rehearse_12 rfl (lv_at hl 2 rfl) ?_
    refine lv_iconst (v := 0) S.1 S.2.1 dX12_rehearse_13 (by decide) ?_
    refine lv_bipush (v := 60) S.1 S.2.1 dX12_rehearse_14 (by decide) ?_
    obtain ⟨v5, hc4, h⟩ := d_b h
    refine dri (va_runS (As := [.int p2, .int 0, .int 60]) (rest := [.ref (dad g p0)]) S (kX12_isIn l g hc4) (va_cwS 3 S.2.2.2.2 gX12_rehearse_X12_isIn rfl rfl rfl ynX12_isIn ⟨Nat.le_of_ble_eq_true rfl, Nat.le_of_ble_eq_true rfl⟩) (dpS hE hP hS) rfl rfl hl.1 rfl (lv_room (Nat.le_of_ble_eq_true rfl)) dX12_rehearse_16 ⟨Nat.le_of_ble_eq_true rfl, Nat.le_of_ble_eq_true rfl⟩) hS (fun H locs hP hS => ?_)
    refine lv_if_eq (tgt := 26) S.1 S.2.1 dX12_rehearse_19 (by decide) (fun cq => ?_) (fun cq => ?_)
    · have h := d_t cq h
      refine lv_iconst (v := 1) S.1 S.2.1 dX12_rehearse_26 (by decide) ?_
      refine dpf12_25 S in12 hE hP hS k0 (S.2.2.2.2 (.fieldLink RX12 76 "DrillFieldModel" "thrown" "I") (List.mem_of_getElem? (i := 1) rfl)) dX12_rehearse_27 (fun H locs hP hS => ?_)
      obtain ⟨m6, em6⟩ : ∃ z : dM, z = d1 m p0 25 1 := ⟨_, rfl⟩
      have h := d_let em6 h
      rw [← em6] at hP
      refine lv_aload_n S.1 S.2.1 dX12_rehearse_30 rfl (lv_at hl 0 rfl) ?_
      refine dgf12_25 S in12 hE hP k0 (S.2.2.2.2 (.fieldLink RX12 76 "DrillFieldModel" "thrown" "I") (List.mem_of_getElem? (i := 1) rfl)) dX12_rehearse_31 ?_
      refine d_top (v := 1) (by rw [em6]; exact d1_get) ?_
      refine lv_if_le (tgt := 39) S.1 S.2.1 dX12_rehearse_34 (by decide) (fun cq => ?_) (fun cq => ?_)
      · exact absurd cq (by decide)
      · refine lv_iconst (v := 0) S.1 S.2.1 dX12_rehearse_37 (by decide) ?_
        obtain ⟨rfl, rfl⟩ := Prod.mk.inj (Option.some.inj h)
        exact dti S hr hlk hE hP hS rfl dX12_rehearse_38
    · have h := d_f cq h
      refine lv_iconst (v := 0) S.1 S.2.1 dX12_rehearse_22 (by decide) ?_
      refine lv_goto (tgt := 27) S.1 S.2.1 dX12_rehearse_23 (by decide) ?_
      refine dpf12_25 S in12 hE hP hS k0 (S.2.2.2.2 (.fieldLink RX12 76 "DrillFieldModel" "thrown" "I") (List.mem_of_getElem? (i := 1) rfl)) dX12_rehearse_27 (fun H locs hP hS => ?_)
      obtain ⟨m7, em7⟩ : ∃ z : dM, z = d1 m p0 25 0 := ⟨_, rfl⟩
      have h := d_let em7 h
      rw [← em7] at hP
      refine lv_aload_n S.1 S.2.1 dX12_rehearse_30 rfl (lv_at hl 0 rfl) ?_
      refine dgf12_25 S in12 hE hP k0 (S.2.2.2.2 (.fieldLink RX12 76 "DrillFieldModel" "thrown" "I") (List.mem_of_getElem? (i := 1) rfl)) dX12_rehearse_31 ?_
      refine d_top (v := 0) (by rw [em7]; exact d1_get) ?_
      refine lv_if_le (tgt := 39) S.1 S.2.1 dX12_rehearse_34 (by decide) (fun cq => ?_) (fun cq => ?_)
      · refine lv_iload_n S.1 S.2.1 dX12_rehearse_39 rfl (lv_at hl 2 rfl) ?_
        refine lv_bipush (v := 36) S.1 S.2.1 dX12_rehearse_40 (by decide) ?_
        refine lv_icmp_lt (tgt := 47) S.1 S.2.1 dX12_rehearse_42 (by decide) (fun cq => ?_) (fun cq => ?_)
        · have h := d_t cq h
          refine lv_iload_n S.1 S.2.1 dX12_rehearse_47 rfl (lv_at hl 2 rfl) ?_
          refine lv_bipush (v := 28) S.1 S.2.1 dX12_rehearse_48 (by decide) ?_
          refine lv_icmp_ge (tgt := 58) S.1 S.2.1 dX12_rehearse_50 (by decide) (fun cq => ?_) (fun cq => ?_)
          · have h := d_t cq h
            refine lv_iload_n S.1 S.2.1 dX12_rehearse_58 rfl (lv_at hl 2 rfl) ?_
            refine lv_bipush (v := 32) S.1 S.2.1 dX12_rehearse_59 (by decide) ?_
            refine lv_icmp_ge (tgt := 69) S.1 S.2.1 dX12_rehearse_61 (by decide) (fun cq => ?_) (fun cq => ?_)
            · have h := d_t cq h
              refine lv_bipush (v := 20) S.1 S.2.1 dX12_rehearse_69 (by decide) ?_
              refine lv_istore_n (lv' := [(3, .int 20), (0, .ref (dad g p0)), (1, .int p1), (2, .int p2)]) S.1 S.2.1 dX12_rehearse_71 rfl hl (by decide) rfl (fun ls hl => ?_)
              refine lv_iload_n S.1 S.2.1 dX12_rehearse_72 rfl (lv_at hl 3 rfl) ?_
              refine lv_bipush (v := 32) S.1 S.2.1 dX12_rehearse_73 (by decide) ?_
              refine lv_icmp_ge (tgt := 83) S.1 S.2.1 dX12_rehearse_75 (by decide) (fun cq => ?_) (fun cq => ?_)
              · have h := d_t cq h
                refine lv_bipush (v := 20) S.1 S.2.1 dX12_rehearse_83 (by decide) ?_
                refine lv_istore (lv' := [(4, .int 20), (3, .int 20), (0, .ref (dad g p0)), (1, .int p1), (2, .int p2)]) S.1 S.2.1 dX12_rehearse_85 hl (by decide) rfl (fun ls hl => ?_)
                refine lv_iload_n S.1 S.2.1 dX12_rehearse_87 rfl (lv_at hl 3 rfl) ?_
                refine lv_iload_n S.1 S.2.1 dX12_rehearse_88 rfl (lv_at hl 3 rfl) ?_
                refine lv_iconst (v := 1) S.1 S.2.1 dX12_rehearse_89 (by decide) ?_
                refine lv_isub S.1 S.2.1 dX12_rehearse_90 ?_
                refine lv_iload_n S.1 S.2.1 dX12_rehearse_91 rfl (lv_at hl 1 rfl) ?_
                refine lv_idiv S.1 S.2.1 dX12_rehearse_92 (by decide) ?_
                refine lv_iload S.1 S.2.1 dX12_rehearse_93 (lv_at hl 0 rfl) ?_
                refine lv_imul S.1 S.2.1 dX12_rehearse_95 ?_
                refine lv_iadd S.1 S.2.1 dX12_rehearse_96 ?_
                obtain ⟨rfl, rfl⟩ := Prod.mk.inj (Option.some.inj h)
                exact dti S hr hlk hE hP hS rfl dX12_rehearse_97
              · have h := d_f cq h
                refine lv_bipush (v := 10) S.1 S.2.1 dX12_rehearse_78 (by decide) ?_
                refine lv_goto (tgt := 85) S.1 S.2.1 dX12_rehearse_80 (by decide) ?_
                refine lv_istore (lv' := [(4, .int 10), (3, .int 20), (0, .ref (dad g p0)), (1, .int p1), (2, .int p2)]) S.1 S.2.1 dX12_rehearse_85 hl (by decide) rfl (fun ls hl => ?_)
                refine lv_iload_n S.1 S.2.1 dX12_rehearse_87 rfl (lv_at hl 3 rfl) ?_
                refine lv_iload_n S.1 S.2.1 dX12_rehearse_88 rfl (lv_at hl 3 rfl) ?_
                refine lv_iconst (v := 1) S.1 S.2.1 dX12_rehearse_89 (by decide) ?_
                refine lv_isub S.1 S.2.1 dX12_rehearse_90 ?_
                refine lv_iload_n S.1 S.2.1 dX12_rehearse_91 rfl (lv_at hl 1 rfl) ?_
                refine lv_idiv S.1 S.2.1 dX12_rehearse_92 (by decide) ?_
                refine lv_iload S.1 S.2.1 dX12_rehearse_93 (lv_at hl 0 rfl) ?_
                refine lv_imul S.1 S.2.1 dX12_rehearse_95 ?_
                refine lv_iadd S.1 S.2.1 dX12_rehearse_96 ?_
                obtain ⟨rfl, rfl⟩ := Prod.mk.inj (Option.some.inj h)
                exact dti S hr hlk hE hP hS rfl dX12_rehearse_97
            · have h := d_f cq h
              refine lv_bipush (v := 30) S.1 S.2.1 dX12_rehearse_64 (by decide) ?_
              refine lv_goto (tgt := 71) S.1 S.2.1 dX12_rehearse_66 (by decide) ?_
              refine lv_istore_n (lv' := [(3, .int 30), (0, .ref (dad g p0)), (1, .int p1), (2, .int p2)]) S.1 S.2.1 dX12_rehearse_71 rfl hl (by decide) rfl (fun ls hl => ?_)
              refine lv_iload_n S.1 S.2.1 dX12_rehearse_72 rfl (lv_at hl 3 rfl) ?_
              refine lv_bipush (v := 32) S.1 S.2.1 dX12_rehearse_73 (by decide) ?_
              refine lv_icmp_ge (tgt := 83) S.1 S.2.1 dX12_rehearse_75 (by decide) (fun cq => ?_) (fun cq => ?_)
              · have h := d_t cq h
                refine lv_bipush (v := 20) S.1 S.2.1 dX12_rehearse_83 (by decide) ?_
                refine lv_istore (lv' := [(4, .int 20), (3, .int 30), (0, .ref (dad g p0)), (1, .int p1), (2, .int p2)]) S.1 S.2.1 dX12_rehearse_85 hl (by decide) rfl (fun ls hl => ?_)
                refine lv_iload_n S.1 S.2.1 dX12_rehearse_87 rfl (lv_at hl 3 rfl) ?_
                refine lv_iload_n S.1 S.2.1 dX12_rehearse_88 rfl (lv_at hl 3 rfl) ?_
                refine lv_iconst (v := 1) S.1 S.2.1 dX12_rehearse_89 (by decide) ?_
                refine lv_isub S.1 S.2.1 dX12_rehearse_90 ?_
                refine lv_iload_n S.1 S.2.1 dX12_rehearse_91 rfl (lv_at hl 1 rfl) ?_
                refine lv_idiv S.1 S.2.1 dX12_rehearse_92 (by decide) ?_
                refine lv_iload S.1 S.2.1 dX12_rehearse_93 (lv_at hl 0 rfl) ?_
                refine lv_imul S.1 S.2.1 dX12_rehearse_95 ?_
                refine lv_iadd S.1 S.2.1 dX12_rehearse_96 ?_
                obtain ⟨rfl, rfl⟩ := Prod.mk.inj (Option.some.inj h)
                exact dti S hr hlk hE hP hS rfl dX12_rehearse_97
              · have h := d_f cq h
                refine lv_bipush (v := 10) S.1 S.2.1 dX12_rehearse_78 (by decide) ?_
                refine lv_goto (tgt := 85) S.1 S.2.1 dX12_rehearse_80 (by decide) ?_
                refine lv_istore (lv' := [(4, .int 10), (3, .int 30), (0, .ref (dad g p0)), (1, .int p1), (2, .int p2)]) S.1 S.2.1 dX12_rehearse_85 hl (by decide) rfl (fun ls hl => ?_)
                refine lv_iload_n S.1 S.2.1 dX12_rehearse_87 rfl (lv_at hl 3 rfl) ?_
                refine lv_iload_n S.1 S.2.1 dX12_rehearse_88 rfl (lv_at hl 3 rfl) ?_
                refine lv_iconst (v := 1) S.1 S.2.1 dX12_rehearse_89 (by decide) ?_
                refine lv_isub S.1 S.2.1 dX12_rehearse_90 ?_
                refine lv_iload_n S.1 S.2.1 dX12_rehearse_91 rfl (lv_at hl 1 rfl) ?_
                refine lv_idiv S.1 S.2.1 dX12_rehearse_92 (by decide) ?_
                refine lv_iload S.1 S.2.1 dX12_rehearse_93 (lv_at hl 0 rfl) ?_
                refine lv_imul S.1 S.2.1 dX12_rehearse_95 ?_
                refine lv_iadd S.1 S.2.1 dX12_rehearse_96 ?_
                obtain ⟨rfl, rfl⟩ := Prod.mk.inj (Option.some.inj h)
                exact dti S hr hlk hE hP hS rfl dX12_rehearse_97
          · have h := d_f cq h
            refine lv_bipush (v := 50) S.1 S.2.1 dX12_rehearse_53 (by decide) ?_
            refine lv_goto (tgt := 71) S.1 S.2.1 dX12_rehearse_55 (by decide) ?_
            refine lv_istore_n (lv' := [(3, .int 50), (0, .ref (dad g p0)), (1, .int p1), (2, .int p2)]) S.1 S.2.1 dX12_rehearse_71 rfl hl (by decide) rfl (fun ls hl => ?_)
            refine lv_iload_n S.1 S.2.1 dX12_rehearse_72 rfl (lv_at hl 3 rfl) ?_
            refine lv_bipush (v := 32) S.1 S.2.1 dX12_rehearse_73 (by decide) ?_
            refine lv_icmp_ge (tgt := 83) S.1 S.2.1 dX12_rehearse_75 (by decide) (fun cq => ?_) (fun cq => ?_)
            · have h := d_t cq h
              refine lv_bipush (v := 20) S.1 S.2.1 dX12_rehearse_83 (by decide) ?_
              refine lv_istore (lv' := [(4, .int 20), (3, .int 50), (0, .ref (dad g p0)), (1, .int p1), (2, .int p2)]) S.1 S.2.1 dX12_rehearse_85 hl (by decide) rfl (fun ls hl => ?_)
              refine lv_iload_n S.1 S.2.1 dX12_rehearse_87 rfl (lv_at hl 3 rfl) ?_
              refine lv_iload_n S.1 S.2.1 dX12_rehearse_88 rfl (lv_at hl 3 rfl) ?_
              refine lv_iconst (v := 1) S.1 S.2.1 dX12_rehearse_89 (by decide) ?_
              refine lv_isub S.1 S.2.1 dX12_rehearse_90 ?_
              refine lv_iload_n S.1 S.2.1 dX12_rehearse_91 rfl (lv_at hl 1 rfl) ?_
              refine lv_idiv S.1 S.2.1 dX12_rehearse_92 (by decide) ?_
              refine lv_iload S.1 S.2.1 dX12_rehearse_93 (lv_at hl 0 rfl) ?_
              refine lv_imul S.1 S.2.1 dX12_rehearse_95 ?_
              refine lv_iadd S.1 S.2.1 dX12_rehearse_96 ?_
              obtain ⟨rfl, rfl⟩ := Prod.mk.inj (Option.some.inj h)
              exact dti S hr hlk hE hP hS rfl dX12_rehearse_97
            · have h := d_f cq h
              refine lv_bipush (v := 10) S.1 S.2.1 dX12_rehearse_78 (by decide) ?_
              refine lv_goto (tgt := 85) S.1 S.2.1 dX12_rehearse_80 (by decide) ?_
              refine lv_istore (lv' := [(4, .int 10), (3, .int 50), (0, .ref (dad g p0)), (1, .int p1), (2, .int p2)]) S.1 S.2.1 dX12_rehearse_85 hl (by decide) rfl (fun ls hl => ?_)
              refine lv_iload_n S.1 S.2.1 dX12_rehearse_87 rfl (lv_at hl 3 rfl) ?_
              refine lv_iload_n S.1 S.2.1 dX12_rehearse_88 rfl (lv_at hl 3 rfl) ?_
              refine lv_iconst (v := 1) S.1 S.2.1 dX12_rehearse_89 (by decide) ?_
              refine lv_isub S.1 S.2.1 dX12_rehearse_90 ?_
              refine lv_iload_n S.1 S.2.1 dX12_rehearse_91 rfl (lv_at hl 1 rfl) ?_
              refine lv_idiv S.1 S.2.1 dX12_rehearse_92 (by decide) ?_
              refine lv_iload S.1 S.2.1 dX12_rehearse_93 (lv_at hl 0 rfl) ?_
              refine lv_imul S.1 S.2.1 dX12_rehearse_95 ?_
              refine lv_iadd S.1 S.2.1 dX12_rehearse_96 ?_
              obtain ⟨rfl, rfl⟩ := Prod.mk.inj (Option.some.inj h)
              exact dti S hr hlk hE hP hS rfl dX12_rehearse_97
        · have h := d_f cq h
          refine lv_iconst (v := (-1)) S.1 S.2.1 dX12_rehearse_45 (by decide) ?_
          obtain ⟨rfl, rfl⟩ := Prod.mk.inj (Option.some.inj h)
          exact dti S hr hlk hE hP hS rfl dX12_rehearse_46
      · exact absurd (by decide) cq
theorem dX12_thrown_0 : decode cX12_thrown 0 = .ok (.aload_n 0, 1) := by decide +kernel
theorem dX12_thrown_1 : decode cX12_thrown 1 = .ok (.getfield 76, 3) := by decide +kernel
theorem dX12_thrown_4 : decode cX12_thrown 4 = .ok (.ireturn, 1) := by decide +kernel
def fX12_thrown (m : dM) (p0 : Nat) : Option Int32 := dg (dkg p0 13) (some (m.1 p0 25))
set_option maxHeartbeats 4000000 in
set_option maxRecDepth 100000 in
theorem kX12_thrown (l : Launch) (g : dG) {m : dM} {p0 : Nat} {r0 : Int32} (h : fX12_thrown m p0 = some r0) : dMet l g yX12_thrown wsX12_thrown (dRm 0 0) [.ref (dad g p0)] m (dQI g r0 m) := by
  refine dof (cc := cX12_thrown) (maxL := 1) (ret := (some .int)) _ (plainFor_of_name (by decide)) rfl (Nat.le_of_ble_eq_true rfl) ?_
  intro p e s mth below meth c S hr hlk hE H ls hP hS hl
  have S : CallFix p mth c cX12_thrown 1 s _ wsX12_thrown RX12 := S
  have hl : lv_has ls 1 [(0, .ref (dad g p0))] := hl
  obtain ⟨locs, hlocs⟩ : ∃ z : List Loc, z = [] := ⟨_, rfl⟩
  rw [← hlocs] at hS ⊢
  have in12 : ∀ w ∈ wsX120, w ∈ wsX12_thrown := by decide +kernel
  unfold fX12_thrown at h
  obtain ⟨k0, h⟩ := d_g h
  have k0 := d_k k0
  refine lv_aload_n S.1 S.2.1 dX12_thrown_0 rfl (lv_at hl 0 rfl) ?_
  refine dgf12_25 S in12 hE hP k0 (S.2.2.2.2 (.fieldLink RX12 76 "DrillFieldModel" "thrown" "I") (List.mem_of_getElem? (i := 1) rfl)) dX12_thrown_1 ?_
  obtain rfl := Option.some.inj h
  exact dti S hr hlk hE hP hS rfl dX12_thrown_4
set_option maxRecDepth 20000 in
theorem ggX12_walking_X12_isPart : GoodIn wsX12_walking wsX12_isPart := goodIn_r _ [8, 9, 10, 11, 7, 12, 39, 40, 41, 42, 43, 44, 45, 46, 47, 48, 49, 50, 51, 52, 53, 54, 55, 56, 57, 58, 59, 60, 61, 62, 63, 64, 65, 66] (by decide +kernel) (by decide +kernel)
set_option maxRecDepth 20000 in
theorem gX12_walking_X12_isPart : GoodIn wsX12_walking (wsV RX12 152 RX12 yX12_isPart wsX12_isPart) := goodIn_app (goodIn_of _ (by decide +kernel)) ggX12_walking_X12_isPart
set_option maxRecDepth 20000 in
theorem ggX12_walking_X12_way : GoodIn wsX12_walking wsX12_way := goodIn_r _ [16, 17, 18, 19, 20, 21, 22, 7, 23, 24, 25, 26, 27, 3, 28, 29, 30, 31, 32, 33, 34, 35, 36, 37, 38, 39, 40, 41, 42, 43, 44, 45, 46, 47, 48, 49, 50, 51, 52, 53, 54, 55, 56, 57, 58, 59, 60, 61, 62, 63, 64, 65, 66] (by decide +kernel) (by decide +kernel)
set_option maxRecDepth 20000 in
theorem gX12_walking_X12_way : GoodIn wsX12_walking (wsV RX12 134 RX12 yX12_way wsX12_way) := goodIn_app (goodIn_of _ (by decide +kernel)) ggX12_walking_X12_way
theorem dX12_walking_0 : decode cX12_walking 0 = .ok (.aload_n 0, 1) := by decide +kernel
theorem dX12_walking_1 : decode cX12_walking 1 = .ok (.aload_n 0, 1) := by decide +kernel
theorem dX12_walking_2 : decode cX12_walking 2 = .ok (.iload_n 1, 1) := by decide +kernel
theorem dX12_walking_3 : decode cX12_walking 3 = .ok (.invokevirtual 152, 3) := by decide +kernel
theorem dX12_walking_6 : decode cX12_walking 6 = .ok (.ifCond .eq 7, 3) := by decide +kernel
theorem dX12_walking_9 : decode cX12_walking 9 = .ok (.iconst 0, 1) := by decide +kernel
theorem dX12_walking_10 : decode cX12_walking 10 = .ok (.goto 4, 3) := by decide +kernel
theorem dX12_walking_13 : decode cX12_walking 13 = .ok (.iconst 1, 1) := by decide +kernel
theorem dX12_walking_14 : decode cX12_walking 14 = .ok (.putfield 76, 3) := by decide +kernel
theorem dX12_walking_17 : decode cX12_walking 17 = .ok (.lconst 0, 1) := by decide +kernel
theorem dX12_walking_18 : decode cX12_walking 18 = .ok (.lstore_n 2, 1) := by decide +kernel
theorem dX12_walking_19 : decode cX12_walking 19 = .ok (.iconst 0, 1) := by decide +kernel
theorem dX12_walking_20 : decode cX12_walking 20 = .ok (.istore 4, 2) := by decide +kernel
theorem dX12_walking_22 : decode cX12_walking 22 = .ok (.iload 4, 2) := by decide +kernel
theorem dX12_walking_24 : decode cX12_walking 24 = .ok (.aload_n 0, 1) := by decide +kernel
theorem dX12_walking_25 : decode cX12_walking 25 = .ok (.getfield 7, 3) := by decide +kernel
theorem dX12_walking_28 : decode cX12_walking 28 = .ok (.if_icmp .ge 38, 3) := by decide +kernel
theorem dX12_walking_31 : decode cX12_walking 31 = .ok (.aload_n 0, 1) := by decide +kernel
theorem dX12_walking_32 : decode cX12_walking 32 = .ok (.getfield 76, 3) := by decide +kernel
theorem dX12_walking_35 : decode cX12_walking 35 = .ok (.ifCond .ne 31, 3) := by decide +kernel
theorem dX12_walking_38 : decode cX12_walking 38 = .ok (.lload_n 2, 1) := by decide +kernel
theorem dX12_walking_39 : decode cX12_walking 39 = .ok (.aload_n 0, 1) := by decide +kernel
theorem dX12_walking_40 : decode cX12_walking 40 = .ok (.iload_n 1, 1) := by decide +kernel
theorem dX12_walking_41 : decode cX12_walking 41 = .ok (.iload 4, 2) := by decide +kernel
theorem dX12_walking_43 : decode cX12_walking 43 = .ok (.aload_n 0, 1) := by decide +kernel
theorem dX12_walking_44 : decode cX12_walking 44 = .ok (.getfield 45, 3) := by decide +kernel
theorem dX12_walking_47 : decode cX12_walking 47 = .ok (.bipush 10, 2) := by decide +kernel
theorem dX12_walking_49 : decode cX12_walking 49 = .ok (.iload_n 1, 1) := by decide +kernel
theorem dX12_walking_50 : decode cX12_walking 50 = .ok (.imul, 1) := by decide +kernel
theorem dX12_walking_51 : decode cX12_walking 51 = .ok (.iload 4, 2) := by decide +kernel
theorem dX12_walking_53 : decode cX12_walking 53 = .ok (.iadd, 1) := by decide +kernel
theorem dX12_walking_54 : decode cX12_walking 54 = .ok (.iaload, 1) := by decide +kernel
theorem dX12_walking_55 : decode cX12_walking 55 = .ok (.invokevirtual 134, 3) := by decide +kernel
theorem dX12_walking_58 : decode cX12_walking 58 = .ok (.ladd, 1) := by decide +kernel
theorem dX12_walking_59 : decode cX12_walking 59 = .ok (.lstore_n 2, 1) := by decide +kernel
theorem dX12_walking_60 : decode cX12_walking 60 = .ok (.iinc 4 1, 3) := by decide +kernel
theorem dX12_walking_63 : decode cX12_walking 63 = .ok (.goto (-41), 3) := by decide +kernel
theorem dX12_walking_66 : decode cX12_walking 66 = .ok (.lload_n 2, 1) := by decide +kernel
theorem dX12_walking_67 : decode cX12_walking 67 = .ok (.lreturn, 1) := by decide +kernel
def fX12_walking_l22 (p0 : Nat) (p1 : Int32) (m3 : dM) (v5 : Int32) (v6 : Int64) : Option ((Int32 × Int64) ⊕ Int64) := if (m3.1 p0 0) ≤ v5 then some (.inr v6) else if (m3.1 p0 25) = 0 then dg (dIx ((10 * p1) + v5) (dL 455)) ((fX12_way m3 p0 p1 v5 (m3.1 455 (Int32.toNatClampNeg ((10 * p1) + v5)))).bind (fun v12 => dlet (v6 + v12 : Int64) (fun v13 => dlet (v5 + 1 : Int32) (fun v14 => some (.inl (v14, v13)))))) else some (.inr v6)
def fX12_walking_l22_2 (p0 : Nat) (p1 : Int32) (m16 : dM) (v18 : Int32) (v19 : Int64) : Option ((Int32 × Int64) ⊕ Int64) := if (m16.1 p0 0) ≤ v18 then some (.inr v19) else if (m16.1 p0 25) = 0 then dg (dIx ((10 * p1) + v18) (dL 455)) ((fX12_way m16 p0 p1 v18 (m16.1 455 (Int32.toNatClampNeg ((10 * p1) + v18)))).bind (fun v25 => dlet (v19 + v25 : Int64) (fun v26 => dlet (v18 + 1 : Int32) (fun v27 => some (.inl (v27, v26)))))) else some (.inr v19)
def fX12_walking (m : dM) (p0 : Nat) (p1 : Int32) : Option (Int64 × dM) := dg (dkg p0 13) ((fX12_isPart m p0 p1).bind (fun v2 => if v2 = 0 then dlet (d1 m p0 25 1) (fun m3 => (dlp (fun q => dP2 q (fun v5 v6 => fX12_walking_l22 p0 p1 m3 v5 v6)) dFl (0, 0)).bind (fun q => dP1 q (fun v15 => some (v15, m3)))) else dlet (d1 m p0 25 0) (fun m16 => (dlp (fun q => dP2 q (fun v18 v19 => fX12_walking_l22_2 p0 p1 m16 v18 v19)) dFl (0, 0)).bind (fun q => dP1 q (fun v28 => some (v28, m16))))))
set_option maxHeartbeats 4000000 in
set_option maxRecDepth 100000 in
theorem kX12_walking (l : Launch) (g : dG) {m : dM} {p0 : Nat} {p1 : Int32} {r0 : Int64} {m0 : dM} (h : fX12_walking m p0 p1 = some (r0, m0)) : dMet l g yX12_walking wsX12_walking (dRm 3 67) [.ref (dad g p0), .int p1] m (dQJ g r0 m0) := by
  refine dof (cc := cX12_walking) (maxL := 5) (ret := (some .long)) _ (plainFor_of_name (by decide)) rfl (Nat.le_of_ble_eq_true rfl) ?_
  intro p e s mth below meth c S hr hlk hE H ls hP hS hl
  have S : CallFix p mth c cX12_walking 5 s _ wsX12_walking RX12 := S
  have hl : lv_has ls 5 [(0, .ref (dad g p0)), (1, .int p1)] := hl
  obtain ⟨locs, hlocs⟩ : ∃ z : List Loc, z = [] := ⟨_, rfl⟩
  rw [← hlocs] at hS ⊢
  have in12 : ∀ w ∈ wsX120, w ∈ wsX12_walking := by decide +kernel
  unfold fX12_walking at h
  obtain ⟨k0, h⟩ := d_g h
  have k0 := d_k k0
  refine lv_aload_n S.1 S.2.1 dX12_walking_0 rfl (lv_at hl 0 rfl) ?_
  refine lv_aload_n S.1 S.2.1 dX12_walking_1 rfl (lv_at hl 0 rfl) ?_
  refine lv_iload_n S.1 S.2.1 dX12_walking_2 rfl (lv_at hl 1 rfl) ?_
  obtain ⟨v2, hc1, h⟩ := d_b h
  refine dri (va_runV (As := [.int p1]) (rest := [.ref (dad g p0)]) S (kX12_isPart l g hc1) (cwV 1 S.2.2.2.2 gX12_walking_X12_isPart rfl rfl rfl ynX12_isPart ⟨Nat.le_of_ble_eq_true rfl, Nat.le_of_ble_eq_true rfl⟩) (dpV hE hP hS (ci := 12) rfl (dat13 k0)) rfl rfl hl.1 rfl (lv_room (Nat.le_of_ble_eq_true rfl)) dX12_walking_3 ⟨Nat.le_of_ble_eq_true rfl, Nat.le_of_ble_eq_true rfl⟩) hS (fun H locs hP hS => ?_)
  refine lv_if_eq (tgt := 13) S.1 S.2.1 dX12_walking_6 (by decide) (fun cq => ?_) (fun cq => ?_)
  · have h := d_t cq h
    refine lv_iconst (v := 1) S.1 S.2.1 dX12_walking_13 (by decide) ?_
    refine dpf12_25 S in12 hE hP hS k0 (S.2.2.2.2 (.fieldLink RX12 76 "DrillFieldModel" "thrown" "I") (List.mem_of_getElem? (i := 1) rfl)) dX12_walking_14 (fun H locs hP hS => ?_)
    obtain ⟨m3, em3⟩ : ∃ z : dM, z = d1 m p0 25 1 := ⟨_, rfl⟩
    have h := d_let em3 h
    rw [← em3] at hP
    refine lv_lconst (v := 0) S.1 S.2.1 dX12_walking_17 (by decide) ?_
    refine lv_lstore_n (lv' := [(2, .long 0), (0, .ref (dad g p0)), (1, .int p1)]) S.1 S.2.1 dX12_walking_18 rfl hl (by decide) rfl (fun ls hl => ?_)
    refine lv_iconst (v := 0) S.1 S.2.1 dX12_walking_19 (by decide) ?_
    refine lv_istore (lv' := [(4, .int 0), (2, .long 0), (0, .ref (dad g p0)), (1, .int p1)]) S.1 S.2.1 dX12_walking_20 hl (by decide) rfl (fun ls hl => ?_)
    obtain ⟨qL4, hqL4, h⟩ := d_b h
    refine d_lp (Hd := fun q => match q with | (v5, v6) => ∀ (H : Heap) (locs : List Loc) (ls : Array Slot), va_P g.1 vwCl (dws g m3) H → va_S (dA g) s.heap H locs → lv_has ls 5 [(4, .int v5), (2, .long v6), (0, .ref (dad g p0)), (1, .int p1)] → W p l e (headSpec wsX12_walking (dRm 3 67)).room s mth (([.ref (dad g p0), .int p1] : List Value).toArray) below meth c H locs 0 0 (MQ below (dQJ g r0 m0) (([.ref (dad g p0), .int p1] : List Value).toArray) s 0 0 (dA g)) (F0 mth 22 ls [])) (K := fun q => (fun (v15 : _) => ∀ (H : Heap) (locs : List Loc) (ls : Array Slot), va_P g.1 vwCl (dws g m3) H → va_S (dA g) s.heap H locs → lv_has ls 5 [(2, .long v15)] → W p l e (headSpec wsX12_walking (dRm 3 67)).room s mth (([.ref (dad g p0), .int p1] : List Value).toArray) below meth c H locs 0 0 (MQ below (dQJ g r0 m0) (([.ref (dad g p0), .int p1] : List Value).toArray) s 0 0 (dA g)) (F0 mth 66 ls [])) q) ?_ dFl _ qL4 hqL4 ?_ H locs ls hP hS (lv_sub hl [0, 1, 2, 3] rfl)
    · intro q o h hCL4 hEL4
      obtain ⟨v5, v6⟩ := q
      have h : fX12_walking_l22 p0 p1 m3 v5 v6 = some o := h
      intro H locs ls hP hS hl
      have hP : va_P g.1 vwCl (dws g m3) H := hP
      have hl : lv_has ls 5 [(4, .int v5), (2, .long v6), (0, .ref (dad g p0)), (1, .int p1)] := hl
      unfold fX12_walking_l22 at h
      refine lv_iload S.1 S.2.1 dX12_walking_22 (lv_at hl 0 rfl) ?_
      refine lv_aload_n S.1 S.2.1 dX12_walking_24 rfl (lv_at hl 2 rfl) ?_
      refine dgf12_0 S in12 hE hP k0 (S.2.2.2.2 (.fieldLink RX12 7 "DrillFieldModel" "dots" "I") (List.mem_of_getElem? (i := 2) rfl)) dX12_walking_25 ?_
      refine lv_icmp_ge (tgt := 66) S.1 S.2.1 dX12_walking_28 (by decide) (fun cq => ?_) (fun cq => ?_)
      · have h := d_t cq h
        obtain rfl := Option.some.inj h
        exact hEL4 _ rfl H locs ls hP hS (lv_sub hl [1] rfl)
      · have h := d_f cq h
        refine lv_aload_n S.1 S.2.1 dX12_walking_31 rfl (lv_at hl 2 rfl) ?_
        refine dgf12_25 S in12 hE hP k0 (S.2.2.2.2 (.fieldLink RX12 76 "DrillFieldModel" "thrown" "I") (List.mem_of_getElem? (i := 1) rfl)) dX12_walking_32 ?_
        refine lv_if_ne (tgt := 66) S.1 S.2.1 dX12_walking_35 (by decide) (fun cq => ?_) (fun cq => ?_)
        · have h := d_f cq h
          obtain rfl := Option.some.inj h
          exact hEL4 _ rfl H locs ls hP hS (lv_sub hl [1] rfl)
        · have h := d_t cq h
          refine lv_lload_n S.1 S.2.1 dX12_walking_38 rfl (lv_at hl 1 rfl) ?_
          refine lv_aload_n S.1 S.2.1 dX12_walking_39 rfl (lv_at hl 2 rfl) ?_
          refine lv_iload_n S.1 S.2.1 dX12_walking_40 rfl (lv_at hl 3 rfl) ?_
          refine lv_iload S.1 S.2.1 dX12_walking_41 (lv_at hl 0 rfl) ?_
          refine lv_aload_n S.1 S.2.1 dX12_walking_43 rfl (lv_at hl 2 rfl) ?_
          refine dgf12_13 S in12 hE hP k0 (S.2.2.2.2 (.fieldLink RX12 45 "DrillFieldModel" "goes" "[I") (List.mem_of_getElem? (i := 3) rfl)) dX12_walking_44 ?_
          refine lv_bipush (v := 10) S.1 S.2.1 dX12_walking_47 (by decide) ?_
          refine lv_iload_n S.1 S.2.1 dX12_walking_49 rfl (lv_at hl 3 rfl) ?_
          refine lv_imul S.1 S.2.1 dX12_walking_50 ?_
          refine lv_iload S.1 S.2.1 dX12_walking_51 (lv_at hl 0 rfl) ?_
          refine lv_iadd S.1 S.2.1 dX12_walking_53 ?_
          obtain ⟨hi, h⟩ := d_g h
          refine d_iald S hE hP dk_455 hi dX12_walking_54 ?_
          obtain ⟨v12, hc11, h⟩ := d_b h
          refine drj (va_runV (As := [.int p1, .int v5, .int (m3.1 455 (Int32.toNatClampNeg ((10 * p1) + v5)))]) (rest := [.long v6]) S (kX12_way l g hc11) (cwV 3 S.2.2.2.2 gX12_walking_X12_way rfl rfl rfl ynX12_way ⟨Nat.le_of_ble_eq_true rfl, Nat.le_of_ble_eq_true rfl⟩) (dpV hE hP hS (ci := 12) rfl (dat13 k0)) rfl rfl hl.1 rfl (lv_room (Nat.le_of_ble_eq_true rfl)) dX12_walking_55 ⟨Nat.le_of_ble_eq_true rfl, Nat.le_of_ble_eq_true rfl⟩) hS (fun H locs hP hS => ?_)
          refine lv_ladd S.1 S.2.1 dX12_walking_58 ?_
          refine lv_topl (fun v13 ev13 => ?_)
          have h := d_let ev13 h
          refine lv_lstore_n (lv' := [(2, .long v13), (4, .int v5), (0, .ref (dad g p0)), (1, .int p1)]) S.1 S.2.1 dX12_walking_59 rfl hl (by decide) rfl (fun ls hl => ?_)
          obtain ⟨v14, ev14⟩ : ∃ z : Int32, z = v5 + 1 := ⟨_, rfl⟩
          have h := d_let ev14 h
          refine lv_iinc (v := v14) (lv' := [(4, .int v14), (2, .long v13), (0, .ref (dad g p0)), (1, .int p1)]) S.1 S.2.1 dX12_walking_60 hl (k := 1) rfl (by rw [ev14]; rfl) (by decide) rfl (fun ls hl => ?_)
          refine lv_goto (tgt := 22) S.1 S.2.1 dX12_walking_63 (by decide) ?_
          obtain rfl := Option.some.inj h
          exact hCL4 _ rfl H locs ls hP hS (lv_sub hl [0, 1, 2, 3] rfl)
    · obtain ⟨v15, rfl⟩ : ∃ z, z = qL4 := ⟨_, rfl⟩
      have h := d_p1 h
      intro H locs ls hP hS hl
      have hP : va_P g.1 vwCl (dws g m3) H := hP
      have hl : lv_has ls 5 [(2, .long v15)] := hl
      refine lv_lload_n S.1 S.2.1 dX12_walking_66 rfl (lv_at hl 0 rfl) ?_
      obtain ⟨rfl, rfl⟩ := Prod.mk.inj (Option.some.inj h)
      exact dtj S hr hlk hE hP hS dX12_walking_67
  · have h := d_f cq h
    refine lv_iconst (v := 0) S.1 S.2.1 dX12_walking_9 (by decide) ?_
    refine lv_goto (tgt := 14) S.1 S.2.1 dX12_walking_10 (by decide) ?_
    refine dpf12_25 S in12 hE hP hS k0 (S.2.2.2.2 (.fieldLink RX12 76 "DrillFieldModel" "thrown" "I") (List.mem_of_getElem? (i := 1) rfl)) dX12_walking_14 (fun H locs hP hS => ?_)
    obtain ⟨m16, em16⟩ : ∃ z : dM, z = d1 m p0 25 0 := ⟨_, rfl⟩
    have h := d_let em16 h
    rw [← em16] at hP
    refine lv_lconst (v := 0) S.1 S.2.1 dX12_walking_17 (by decide) ?_
    refine lv_lstore_n (lv' := [(2, .long 0), (0, .ref (dad g p0)), (1, .int p1)]) S.1 S.2.1 dX12_walking_18 rfl hl (by decide) rfl (fun ls hl => ?_)
    refine lv_iconst (v := 0) S.1 S.2.1 dX12_walking_19 (by decide) ?_
    refine lv_istore (lv' := [(4, .int 0), (2, .long 0), (0, .ref (dad g p0)), (1, .int p1)]) S.1 S.2.1 dX12_walking_20 hl (by decide) rfl (fun ls hl => ?_)
    obtain ⟨qL17, hqL17, h⟩ := d_b h
    refine d_lp (Hd := fun q => match q with | (v18, v19) => ∀ (H : Heap) (locs : List Loc) (ls : Array Slot), va_P g.1 vwCl (dws g m16) H → va_S (dA g) s.heap H locs → lv_has ls 5 [(4, .int v18), (2, .long v19), (0, .ref (dad g p0)), (1, .int p1)] → W p l e (headSpec wsX12_walking (dRm 3 67)).room s mth (([.ref (dad g p0), .int p1] : List Value).toArray) below meth c H locs 0 0 (MQ below (dQJ g r0 m0) (([.ref (dad g p0), .int p1] : List Value).toArray) s 0 0 (dA g)) (F0 mth 22 ls [])) (K := fun q => (fun (v28 : _) => ∀ (H : Heap) (locs : List Loc) (ls : Array Slot), va_P g.1 vwCl (dws g m16) H → va_S (dA g) s.heap H locs → lv_has ls 5 [(2, .long v28)] → W p l e (headSpec wsX12_walking (dRm 3 67)).room s mth (([.ref (dad g p0), .int p1] : List Value).toArray) below meth c H locs 0 0 (MQ below (dQJ g r0 m0) (([.ref (dad g p0), .int p1] : List Value).toArray) s 0 0 (dA g)) (F0 mth 66 ls [])) q) ?_ dFl _ qL17 hqL17 ?_ H locs ls hP hS (lv_sub hl [0, 1, 2, 3] rfl)
    · intro q o h hCL17 hEL17
      obtain ⟨v18, v19⟩ := q
      have h : fX12_walking_l22_2 p0 p1 m16 v18 v19 = some o := h
      intro H locs ls hP hS hl
      have hP : va_P g.1 vwCl (dws g m16) H := hP
      have hl : lv_has ls 5 [(4, .int v18), (2, .long v19), (0, .ref (dad g p0)), (1, .int p1)] := hl
      unfold fX12_walking_l22_2 at h
      refine lv_iload S.1 S.2.1 dX12_walking_22 (lv_at hl 0 rfl) ?_
      refine lv_aload_n S.1 S.2.1 dX12_walking_24 rfl (lv_at hl 2 rfl) ?_
      refine dgf12_0 S in12 hE hP k0 (S.2.2.2.2 (.fieldLink RX12 7 "DrillFieldModel" "dots" "I") (List.mem_of_getElem? (i := 2) rfl)) dX12_walking_25 ?_
      refine lv_icmp_ge (tgt := 66) S.1 S.2.1 dX12_walking_28 (by decide) (fun cq => ?_) (fun cq => ?_)
      · have h := d_t cq h
        obtain rfl := Option.some.inj h
        exact hEL17 _ rfl H locs ls hP hS (lv_sub hl [1] rfl)
      · have h := d_f cq h
        refine lv_aload_n S.1 S.2.1 dX12_walking_31 rfl (lv_at hl 2 rfl) ?_
        refine dgf12_25 S in12 hE hP k0 (S.2.2.2.2 (.fieldLink RX12 76 "DrillFieldModel" "thrown" "I") (List.mem_of_getElem? (i := 1) rfl)) dX12_walking_32 ?_
        refine lv_if_ne (tgt := 66) S.1 S.2.1 dX12_walking_35 (by decide) (fun cq => ?_) (fun cq => ?_)
        · have h := d_f cq h
          obtain rfl := Option.some.inj h
          exact hEL17 _ rfl H locs ls hP hS (lv_sub hl [1] rfl)
        · have h := d_t cq h
          refine lv_lload_n S.1 S.2.1 dX12_walking_38 rfl (lv_at hl 1 rfl) ?_
          refine lv_aload_n S.1 S.2.1 dX12_walking_39 rfl (lv_at hl 2 rfl) ?_
          refine lv_iload_n S.1 S.2.1 dX12_walking_40 rfl (lv_at hl 3 rfl) ?_
          refine lv_iload S.1 S.2.1 dX12_walking_41 (lv_at hl 0 rfl) ?_
          refine lv_aload_n S.1 S.2.1 dX12_walking_43 rfl (lv_at hl 2 rfl) ?_
          refine dgf12_13 S in12 hE hP k0 (S.2.2.2.2 (.fieldLink RX12 45 "DrillFieldModel" "goes" "[I") (List.mem_of_getElem? (i := 3) rfl)) dX12_walking_44 ?_
          refine lv_bipush (v := 10) S.1 S.2.1 dX12_walking_47 (by decide) ?_
          refine lv_iload_n S.1 S.2.1 dX12_walking_49 rfl (lv_at hl 3 rfl) ?_
          refine lv_imul S.1 S.2.1 dX12_walking_50 ?_
          refine lv_iload S.1 S.2.1 dX12_walking_51 (lv_at hl 0 rfl) ?_
          refine lv_iadd S.1 S.2.1 dX12_walking_53 ?_
          obtain ⟨hi, h⟩ := d_g h
          refine d_iald S hE hP dk_455 hi dX12_walking_54 ?_
          obtain ⟨v25, hc24, h⟩ := d_b h
          refine drj (va_runV (As := [.int p1, .int v18, .int (m16.1 455 (Int32.toNatClampNeg ((10 * p1) + v18)))]) (rest := [.long v19]) S (kX12_way l g hc24) (cwV 3 S.2.2.2.2 gX12_walking_X12_way rfl rfl rfl ynX12_way ⟨Nat.le_of_ble_eq_true rfl, Nat.le_of_ble_eq_true rfl⟩) (dpV hE hP hS (ci := 12) rfl (dat13 k0)) rfl rfl hl.1 rfl (lv_room (Nat.le_of_ble_eq_true rfl)) dX12_walking_55 ⟨Nat.le_of_ble_eq_true rfl, Nat.le_of_ble_eq_true rfl⟩) hS (fun H locs hP hS => ?_)
          refine lv_ladd S.1 S.2.1 dX12_walking_58 ?_
          refine lv_topl (fun v26 ev26 => ?_)
          have h := d_let ev26 h
          refine lv_lstore_n (lv' := [(2, .long v26), (4, .int v18), (0, .ref (dad g p0)), (1, .int p1)]) S.1 S.2.1 dX12_walking_59 rfl hl (by decide) rfl (fun ls hl => ?_)
          obtain ⟨v27, ev27⟩ : ∃ z : Int32, z = v18 + 1 := ⟨_, rfl⟩
          have h := d_let ev27 h
          refine lv_iinc (v := v27) (lv' := [(4, .int v27), (2, .long v26), (0, .ref (dad g p0)), (1, .int p1)]) S.1 S.2.1 dX12_walking_60 hl (k := 1) rfl (by rw [ev27]; rfl) (by decide) rfl (fun ls hl => ?_)
          refine lv_goto (tgt := 22) S.1 S.2.1 dX12_walking_63 (by decide) ?_
          obtain rfl := Option.some.inj h
          exact hCL17 _ rfl H locs ls hP hS (lv_sub hl [0, 1, 2, 3] rfl)
    · obtain ⟨v28, rfl⟩ : ∃ z, z = qL17 := ⟨_, rfl⟩
      have h := d_p1 h
      intro H locs ls hP hS hl
      have hP : va_P g.1 vwCl (dws g m16) H := hP
      have hl : lv_has ls 5 [(2, .long v28)] := hl
      refine lv_lload_n S.1 S.2.1 dX12_walking_66 rfl (lv_at hl 0 rfl) ?_
      obtain ⟨rfl, rfl⟩ := Prod.mk.inj (Option.some.inj h)
      exact dtj S hr hlk hE hP hS dX12_walking_67
set_option maxRecDepth 20000 in
theorem ggX12_wedge_X12_isOnField : GoodIn wsX12_wedge wsX12_isOnField := goodIn_r _ [4, 5, 6, 3, 7] (by decide +kernel) (by decide +kernel)
set_option maxRecDepth 20000 in
theorem gX12_wedge_X12_isOnField : GoodIn wsX12_wedge (va_wsS RX12 100 yX12_isOnField wsX12_isOnField) := goodIn_app (goodIn_of _ (by decide +kernel)) ggX12_wedge_X12_isOnField
set_option maxRecDepth 20000 in
theorem ggX12_wedge_X12_isIn : GoodIn wsX12_wedge wsX12_isIn := goodIn_r _ [7] (by decide +kernel) (by decide +kernel)
set_option maxRecDepth 20000 in
theorem gX12_wedge_X12_isIn : GoodIn wsX12_wedge (va_wsS RX12 79 yX12_isIn wsX12_isIn) := goodIn_app (goodIn_of _ (by decide +kernel)) ggX12_wedge_X12_isIn
set_option maxRecDepth 20000 in
theorem ggX12_wedge_X12_tried : GoodIn wsX12_wedge wsX12_tried := goodIn_r _ [11, 12, 13, 14, 15, 16, 17, 18, 19, 3, 20, 1, 2, 4, 5, 6, 7, 21, 22, 23, 24, 25, 26, 27, 28, 29, 30, 31, 32, 33, 34, 35, 36, 37, 38, 39, 40, 41, 42, 43, 44, 45, 46, 47, 48, 49, 50, 51, 52, 53] (by decide +kernel) (by decide +kernel)
set_option maxRecDepth 20000 in
theorem gX12_wedge_X12_tried : GoodIn wsX12_wedge (wsV RX12 108 RX12 yX12_tried wsX12_tried) := goodIn_app (goodIn_of _ (by decide +kernel)) ggX12_wedge_X12_tried
set_option maxRecDepth 20000 in
theorem ggX12_wedge_X12_adds : GoodIn wsX12_wedge wsX12_adds := goodIn_r _ [24, 25, 15, 26, 27, 28, 29, 30, 31, 32, 33, 34, 35, 36, 37, 38, 39, 40, 41, 42, 43, 44, 45, 46, 47, 48, 49, 50, 51, 52, 53] (by decide +kernel) (by decide +kernel)
set_option maxRecDepth 20000 in
theorem gX12_wedge_X12_adds : GoodIn wsX12_wedge (wsV RX12 104 RX12 yX12_adds wsX12_adds) := goodIn_app (goodIn_of _ (by decide +kernel)) ggX12_wedge_X12_adds
theorem dX12_wedge_0 : decode cX12_wedge 0 = .ok (.iload_n 1, 1) := by decide +kernel
theorem dX12_wedge_1 : decode cX12_wedge 1 = .ok (.iload_n 2, 1) := by decide +kernel
theorem dX12_wedge_2 : decode cX12_wedge 2 = .ok (.invokestatic 100, 3) := by decide +kernel
theorem dX12_wedge_5 : decode cX12_wedge 5 = .ok (.ifCond .eq 26, 3) := by decide +kernel
theorem dX12_wedge_8 : decode cX12_wedge 8 = .ok (.iload_n 3, 1) := by decide +kernel
theorem dX12_wedge_9 : decode cX12_wedge 9 = .ok (.iconst 1, 1) := by decide +kernel
theorem dX12_wedge_10 : decode cX12_wedge 10 = .ok (.sipush 400, 3) := by decide +kernel
theorem dX12_wedge_13 : decode cX12_wedge 13 = .ok (.invokestatic 79, 3) := by decide +kernel
theorem dX12_wedge_16 : decode cX12_wedge 16 = .ok (.ifCond .eq 15, 3) := by decide +kernel
theorem dX12_wedge_19 : decode cX12_wedge 19 = .ok (.aload_n 0, 1) := by decide +kernel
theorem dX12_wedge_20 : decode cX12_wedge 20 = .ok (.iconst 2, 1) := by decide +kernel
theorem dX12_wedge_21 : decode cX12_wedge 21 = .ok (.iload_n 1, 1) := by decide +kernel
theorem dX12_wedge_22 : decode cX12_wedge 22 = .ok (.iload_n 2, 1) := by decide +kernel
theorem dX12_wedge_23 : decode cX12_wedge 23 = .ok (.iload_n 3, 1) := by decide +kernel
theorem dX12_wedge_24 : decode cX12_wedge 24 = .ok (.iconst 0, 1) := by decide +kernel
theorem dX12_wedge_25 : decode cX12_wedge 25 = .ok (.invokevirtual 108, 3) := by decide +kernel
theorem dX12_wedge_28 : decode cX12_wedge 28 = .ok (.goto 9, 3) := by decide +kernel
theorem dX12_wedge_31 : decode cX12_wedge 31 = .ok (.aload_n 0, 1) := by decide +kernel
theorem dX12_wedge_32 : decode cX12_wedge 32 = .ok (.iconst 0, 1) := by decide +kernel
theorem dX12_wedge_33 : decode cX12_wedge 33 = .ok (.iconst 0, 1) := by decide +kernel
theorem dX12_wedge_34 : decode cX12_wedge 34 = .ok (.invokevirtual 104, 3) := by decide +kernel
theorem dX12_wedge_37 : decode cX12_wedge 37 = .ok (.ireturn, 1) := by decide +kernel
def fX12_wedge (m : dM) (p0 : Nat) (p1 : Int32) (p2 : Int32) (p3 : Int32) : Option (Int32 × dM) := dg (dkg p0 13) ((fX12_isOnField m p1 p2).bind (fun v2 => if v2 = 0 then (fX12_adds m p0 0 0).bind (fun q => dP2 q (fun v5 m4 => some (v5, m4))) else (fX12_isIn m p3 1 400).bind (fun v7 => if v7 = 0 then (fX12_adds m p0 0 0).bind (fun q => dP2 q (fun v10 m9 => some (v10, m9))) else (fX12_tried m p0 2 p1 p2 p3 0).bind (fun q => dP2 q (fun v13 m12 => some (v13, m12))))))
set_option maxHeartbeats 4000000 in
set_option maxRecDepth 100000 in
theorem kX12_wedge (l : Launch) (g : dG) {m : dM} {p0 : Nat} {p1 : Int32} {p2 : Int32} {p3 : Int32} {r0 : Int32} {m0 : dM} (h : fX12_wedge m p0 p1 p2 p3 = some (r0, m0)) : dMet l g yX12_wedge wsX12_wedge (dRm 3 71) [.ref (dad g p0), .int p1, .int p2, .int p3] m (dQI g r0 m0) := by
  refine dof (cc := cX12_wedge) (maxL := 4) (ret := (some .int)) _ (plainFor_of_name (by decide)) rfl (Nat.le_of_ble_eq_true rfl) ?_
  intro p e s mth below meth c S hr hlk hE H ls hP hS hl
  have S : CallFix p mth c cX12_wedge 4 s _ wsX12_wedge RX12 := S
  have hl : lv_has ls 4 [(0, .ref (dad g p0)), (1, .int p1), (2, .int p2), (3, .int p3)] := hl
  obtain ⟨locs, hlocs⟩ : ∃ z : List Loc, z = [] := ⟨_, rfl⟩
  rw [← hlocs] at hS ⊢
  unfold fX12_wedge at h
  obtain ⟨k0, h⟩ := d_g h
  have k0 := d_k k0
  refine lv_iload_n S.1 S.2.1 dX12_wedge_0 rfl (lv_at hl 1 rfl) ?_
  refine lv_iload_n S.1 S.2.1 dX12_wedge_1 rfl (lv_at hl 2 rfl) ?_
  obtain ⟨v2, hc1, h⟩ := d_b h
  refine dri (va_runS (As := [.int p1, .int p2]) (rest := []) S (kX12_isOnField l g hc1) (va_cwS 2 S.2.2.2.2 gX12_wedge_X12_isOnField rfl rfl rfl ynX12_isOnField ⟨Nat.le_of_ble_eq_true rfl, Nat.le_of_ble_eq_true rfl⟩) (dpS hE hP hS) rfl rfl hl.1 rfl (lv_room (Nat.le_of_ble_eq_true rfl)) dX12_wedge_2 ⟨Nat.le_of_ble_eq_true rfl, Nat.le_of_ble_eq_true rfl⟩) hS (fun H locs hP hS => ?_)
  refine lv_if_eq (tgt := 31) S.1 S.2.1 dX12_wedge_5 (by decide) (fun cq => ?_) (fun cq => ?_)
  · have h := d_t cq h
    refine lv_aload_n S.1 S.2.1 dX12_wedge_31 rfl (lv_at hl 0 rfl) ?_
    refine lv_iconst (v := 0) S.1 S.2.1 dX12_wedge_32 (by decide) ?_
    refine lv_iconst (v := 0) S.1 S.2.1 dX12_wedge_33 (by decide) ?_
    obtain ⟨⟨v5, m4⟩, hc3, h⟩ := d_b h
    have h := d_p2 h
    refine dri (va_runV (As := [.int 0, .int 0]) (rest := []) S (kX12_adds l g hc3) (cwV 2 S.2.2.2.2 gX12_wedge_X12_adds rfl rfl rfl ynX12_adds ⟨Nat.le_of_ble_eq_true rfl, Nat.le_of_ble_eq_true rfl⟩) (dpV hE hP hS (ci := 12) rfl (dat13 k0)) rfl rfl hl.1 rfl (lv_room (Nat.le_of_ble_eq_true rfl)) dX12_wedge_34 ⟨Nat.le_of_ble_eq_true rfl, Nat.le_of_ble_eq_true rfl⟩) hS (fun H locs hP hS => ?_)
    obtain ⟨rfl, rfl⟩ := Prod.mk.inj (Option.some.inj h)
    exact dti S hr hlk hE hP hS rfl dX12_wedge_37
  · have h := d_f cq h
    refine lv_iload_n S.1 S.2.1 dX12_wedge_8 rfl (lv_at hl 3 rfl) ?_
    refine lv_iconst (v := 1) S.1 S.2.1 dX12_wedge_9 (by decide) ?_
    refine lv_sipush (v := 400) S.1 S.2.1 dX12_wedge_10 (by decide) ?_
    obtain ⟨v7, hc6, h⟩ := d_b h
    refine dri (va_runS (As := [.int p3, .int 1, .int 400]) (rest := []) S (kX12_isIn l g hc6) (va_cwS 3 S.2.2.2.2 gX12_wedge_X12_isIn rfl rfl rfl ynX12_isIn ⟨Nat.le_of_ble_eq_true rfl, Nat.le_of_ble_eq_true rfl⟩) (dpS hE hP hS) rfl rfl hl.1 rfl (lv_room (Nat.le_of_ble_eq_true rfl)) dX12_wedge_13 ⟨Nat.le_of_ble_eq_true rfl, Nat.le_of_ble_eq_true rfl⟩) hS (fun H locs hP hS => ?_)
    refine lv_if_eq (tgt := 31) S.1 S.2.1 dX12_wedge_16 (by decide) (fun cq => ?_) (fun cq => ?_)
    · have h := d_t cq h
      refine lv_aload_n S.1 S.2.1 dX12_wedge_31 rfl (lv_at hl 0 rfl) ?_
      refine lv_iconst (v := 0) S.1 S.2.1 dX12_wedge_32 (by decide) ?_
      refine lv_iconst (v := 0) S.1 S.2.1 dX12_wedge_33 (by decide) ?_
      obtain ⟨⟨v10, m9⟩, hc8, h⟩ := d_b h
      have h := d_p2 h
      refine dri (va_runV (As := [.int 0, .int 0]) (rest := []) S (kX12_adds l g hc8) (cwV 2 S.2.2.2.2 gX12_wedge_X12_adds rfl rfl rfl ynX12_adds ⟨Nat.le_of_ble_eq_true rfl, Nat.le_of_ble_eq_true rfl⟩) (dpV hE hP hS (ci := 12) rfl (dat13 k0)) rfl rfl hl.1 rfl (lv_room (Nat.le_of_ble_eq_true rfl)) dX12_wedge_34 ⟨Nat.le_of_ble_eq_true rfl, Nat.le_of_ble_eq_true rfl⟩) hS (fun H locs hP hS => ?_)
      obtain ⟨rfl, rfl⟩ := Prod.mk.inj (Option.some.inj h)
      exact dti S hr hlk hE hP hS rfl dX12_wedge_37
    · have h := d_f cq h
      refine lv_aload_n S.1 S.2.1 dX12_wedge_19 rfl (lv_at hl 0 rfl) ?_
      refine lv_iconst (v := 2) S.1 S.2.1 dX12_wedge_20 (by decide) ?_
      refine lv_iload_n S.1 S.2.1 dX12_wedge_21 rfl (lv_at hl 1 rfl) ?_
      refine lv_iload_n S.1 S.2.1 dX12_wedge_22 rfl (lv_at hl 2 rfl) ?_
      refine lv_iload_n S.1 S.2.1 dX12_wedge_23 rfl (lv_at hl 3 rfl) ?_
      refine lv_iconst (v := 0) S.1 S.2.1 dX12_wedge_24 (by decide) ?_
      obtain ⟨⟨v13, m12⟩, hc11, h⟩ := d_b h
      have h := d_p2 h
      refine dri (va_runV (As := [.int 2, .int p1, .int p2, .int p3, .int 0]) (rest := []) S (kX12_tried l g hc11) (cwV 5 S.2.2.2.2 gX12_wedge_X12_tried rfl rfl rfl ynX12_tried ⟨Nat.le_of_ble_eq_true rfl, Nat.le_of_ble_eq_true rfl⟩) (dpV hE hP hS (ci := 12) rfl (dat13 k0)) rfl rfl hl.1 rfl (lv_room (Nat.le_of_ble_eq_true rfl)) dX12_wedge_25 ⟨Nat.le_of_ble_eq_true rfl, Nat.le_of_ble_eq_true rfl⟩) hS (fun H locs hP hS => ?_)
      refine lv_goto (tgt := 37) S.1 S.2.1 dX12_wedge_28 (by decide) ?_
      obtain ⟨rfl, rfl⟩ := Prod.mk.inj (Option.some.inj h)
      exact dti S hr hlk hE hP hS rfl dX12_wedge_37
