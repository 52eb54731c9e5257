set_option maxRecDepth 20000 in
theorem ggX0_lossByClock_X11_downBy : GoodIn wsX0_lossByClock wsX11_downBy := goodIn_r _ [9, 10, 11, 12, 13] (by decide +kernel) (by decide +kernel)
set_option maxRecDepth 20000 in
theorem gX0_lossByClock_X11_downBy_n35 : GoodIn wsX0_lossByClock (wsX11_downBy) := ggX0_lossByClock_X11_downBy
theorem dX0_lossByClock_0 : decode cX0_lossByClock 0 = .ok (.aload_n 0, 1) := by decide +kernel
theorem dX0_lossByClock_1 : decode cX0_lossByClock 1 = .ok (.getfield 24, 3) := by decide +kernel
theorem dX0_lossByClock_4 : decode cX0_lossByClock 4 = .ok (.iload_n 1, 1) := by decide +kernel
theorem dX0_lossByClock_5 : decode cX0_lossByClock 5 = .ok (.isub, 1) := by decide +kernel
theorem dX0_lossByClock_6 : decode cX0_lossByClock 6 = .ok (.iload_n 1, 1) := by decide +kernel
theorem dX0_lossByClock_7 : decode cX0_lossByClock 7 = .ok (.aload_n 0, 1) := by decide +kernel
theorem dX0_lossByClock_8 : decode cX0_lossByClock 8 = .ok (.getfield 20, 3) := by decide +kernel
theorem dX0_lossByClock_11 : decode cX0_lossByClock 11 = .ok (.isub, 1) := by decide +kernel
theorem dX0_lossByClock_12 : decode cX0_lossByClock 12 = .ok (.invokestatic 39, 3) := by decide +kernel
theorem dX0_lossByClock_15 : decode cX0_lossByClock 15 = .ok (.iconst 0, 1) := by decide +kernel
theorem dX0_lossByClock_16 : decode cX0_lossByClock 16 = .ok (.invokestatic 39, 3) := by decide +kernel
theorem dX0_lossByClock_19 : decode cX0_lossByClock 19 = .ok (.istore_n 2, 1) := by decide +kernel
theorem dX0_lossByClock_20 : decode cX0_lossByClock 20 = .ok (.iload_n 2, 1) := by decide +kernel
theorem dX0_lossByClock_21 : decode cX0_lossByClock 21 = .ok (.bipush 30, 2) := by decide +kernel
theorem dX0_lossByClock_23 : decode cX0_lossByClock 23 = .ok (.iadd, 1) := by decide +kernel
theorem dX0_lossByClock_24 : decode cX0_lossByClock 24 = .ok (.iconst 1, 1) := by decide +kernel
theorem dX0_lossByClock_25 : decode cX0_lossByClock 25 = .ok (.isub, 1) := by decide +kernel
theorem dX0_lossByClock_26 : decode cX0_lossByClock 26 = .ok (.bipush 30, 2) := by decide +kernel
theorem dX0_lossByClock_28 : decode cX0_lossByClock 28 = .ok (.invokestatic 35, 3) := by decide +kernel
theorem dX0_lossByClock_31 : decode cX0_lossByClock 31 = .ok (.ireturn, 1) := by decide +kernel
def fX0_lossByClock (m : dM) (p0 : Nat) (p1 : Int32) : Option Int32 := dg (dkg p0 1) (dlet (if (if ((m.1 p0 2) - p1) < (p1 - (m.1 p0 3)) then (p1 - (m.1 p0 3)) else ((m.1 p0 2) - p1)) < 0 then 0 else (if ((m.1 p0 2) - p1) < (p1 - (m.1 p0 3)) then (p1 - (m.1 p0 3)) else ((m.1 p0 2) - p1)) : Int32) (fun v1 => (fX11_downBy m ((v1 + 30) - 1) 30).bind (fun v3 => some v3)))
set_option maxHeartbeats 4000000 in
set_option maxRecDepth 100000 in
theorem kX0_lossByClock (l : Launch) (g : dG) {m : dM} {p0 : Nat} {p1 : Int32} {r0 : Int32} (h : fX0_lossByClock m p0 p1 = some r0) : dMet l g yX0_lossByClock wsX0_lossByClock (dRm 2 43) [.ref (dad g p0), .int p1] m (dQI g r0 m) := by
  refine dof (cc := cX0_lossByClock) (maxL := 3) (ret := (some .int)) _ (plainFor_of_name (by decide)) rfl (Nat.le_of_ble_eq_true rfl) ?_
  intro p e s mth below meth c S hr hlk hE H ls hP hS hl
  have S : CallFix p mth c cX0_lossByClock 3 s _ wsX0_lossByClock RX0 := S
  have hl : lv_has ls 3 [(0, .ref (dad g p0)), (1, .int p1)] := hl
  obtain ⟨locs, hlocs⟩ : ∃ z : List Loc, z = [] := ⟨_, rfl⟩
  rw [← hlocs] at hS ⊢
  have in0 : ∀ w ∈ wsX00, w ∈ wsX0_lossByClock := by decide +kernel
  unfold fX0_lossByClock at h
  obtain ⟨k0, h⟩ := d_g h
  have k0 := d_k k0
  refine lv_aload_n S.1 S.2.1 dX0_lossByClock_0 rfl (lv_at hl 0 rfl) ?_
  refine dgf0_2 S in0 hE hP k0 (S.2.2.2.2 (.fieldLink RX0 24 "DrillField$Contest" "leastClock" "I") (List.mem_of_getElem? (i := 1) rfl)) dX0_lossByClock_1 ?_
  refine lv_iload_n S.1 S.2.1 dX0_lossByClock_4 rfl (lv_at hl 1 rfl) ?_
  refine lv_isub S.1 S.2.1 dX0_lossByClock_5 ?_
  refine lv_iload_n S.1 S.2.1 dX0_lossByClock_6 rfl (lv_at hl 1 rfl) ?_
  refine lv_aload_n S.1 S.2.1 dX0_lossByClock_7 rfl (lv_at hl 0 rfl) ?_
  refine dgf0_3 S in0 hE hP k0 (S.2.2.2.2 (.fieldLink RX0 20 "DrillField$Contest" "mostClock" "I") (List.mem_of_getElem? (i := 2) rfl)) dX0_lossByClock_8 ?_
  refine lv_isub S.1 S.2.1 dX0_lossByClock_11 ?_
  refine va_mmax S.1 S.2.1 (S.2.2.1.trans hl.1.symm) S.2.2.2.1 (S.2.2.2.2 (.methodLink RX0 39 Lib.Math.max.name) (List.mem_of_getElem? (i := 3) rfl)) (S.2.2.2.2 (.static Lib.Math.max.name) (List.mem_of_getElem? (i := 4) rfl)) (S.2.2.2.2 (.initialized "java/lang/Math") (List.mem_of_getElem? (i := 5) rfl)) (S.2.2.2.2 (.code Lib.Math.max.name Lib.Math.max.code 2 (some .int)) (List.mem_of_getElem? (i := 6) rfl)) (Nat.le_of_ble_eq_true rfl) (Nat.le_of_ble_eq_true rfl) (Nat.le_of_ble_eq_true rfl) (Nat.le_of_ble_eq_true rfl) dX0_lossByClock_12 ?_
  refine lv_iconst (v := 0) S.1 S.2.1 dX0_lossByClock_15 (by decide) ?_
  refine va_mmax S.1 S.2.1 (S.2.2.1.trans hl.1.symm) S.2.2.2.1 (S.2.2.2.2 (.methodLink RX0 39 Lib.Math.max.name) (List.mem_of_getElem? (i := 3) rfl)) (S.2.2.2.2 (.static Lib.Math.max.name) (List.mem_of_getElem? (i := 4) rfl)) (S.2.2.2.2 (.initialized "java/lang/Math") (List.mem_of_getElem? (i := 5) rfl)) (S.2.2.2.2 (.code Lib.Math.max.name Lib.Math.max.code 2 (some .int)) (List.mem_of_getElem? (i := 6) rfl)) (Nat.le_of_ble_eq_true rfl) (Nat.le_of_ble_eq_true rfl) (Nat.le_of_ble_eq_true rfl) (Nat.le_of_ble_eq_true rfl) dX0_lossByClock_16 ?_
  refine lv_topi (fun v1 ev1 => ?_)
  have h := d_let ev1 h
  refine lv_istore_n (lv' := [(2, .int v1), (0, .ref (dad g p0)), (1, .int p1)]) S.1 S.2.1 dX0_lossByClock_19 rfl hl (by decide) rfl (fun ls hl => ?_)
  refine lv_iload_n S.1 S.2.1 dX0_lossByClock_20 rfl (lv_at hl 0 rfl) ?_
  refine lv_bipush (v := 30) S.1 S.2.1 dX0_lossByClock_21 (by decide) ?_
  refine lv_iadd S.1 S.2.1 dX0_lossByClock_23 ?_
  refine lv_iconst (v := 1) S.1 S.2.1 dX0_lossByClock_24 (by decide) ?_
  refine lv_isub S.1 S.2.1 dX0_lossByClock_25 ?_
  refine lv_bipush (v := 30) S.1 S.2.1 dX0_lossByClock_26 (by decide) ?_
  obtain ⟨v3, hc2, h⟩ := d_b h
  refine dri (va_runSN (As := [.int ((v1 + 30) - 1), .int 30]) (rest := []) S (kX11_downBy l g hc2) ⟨va_cnB 2 S.2.2.2.2 gX0_lossByClock_X11_downBy_n35 rfl rfl rfl (dnq_RX0_35 hE) (S.2.2.2.2 (.initialized RX11) (List.mem_of_getElem? (i := 8) rfl)) ynX11_downBy ⟨Nat.le_of_ble_eq_true rfl, Nat.le_of_ble_eq_true rfl⟩, S.2.2.2.2 (.static yX11_downBy) (List.mem_of_getElem? (i := 7) rfl), trivial⟩ (dpS hE hP hS) rfl rfl hl.1 rfl (lv_room (Nat.le_of_ble_eq_true rfl)) dX0_lossByClock_28 ⟨Nat.le_of_ble_eq_true rfl, Nat.le_of_ble_eq_true rfl⟩) hS (fun H locs hP hS => ?_)
  obtain rfl := Option.some.inj h
  exact dti S hr hlk hE hP hS rfl dX0_lossByClock_31
set_option maxRecDepth 20000 in
theorem ggX0_points_X11_isWithin : GoodIn wsX0_points wsX11_isWithin := goodIn_r _ [9] (by decide +kernel) (by decide +kernel)
set_option maxRecDepth 20000 in
theorem gX0_points_X11_isWithin_n27 : GoodIn wsX0_points (wsX11_isWithin) := ggX0_points_X11_isWithin
set_option maxRecDepth 20000 in
theorem ggX0_points_X0_lossByClock : GoodIn wsX0_points wsX0_lossByClock := goodIn_r _ [14, 15, 16, 3, 4, 5, 6, 17, 8, 18, 19, 20, 21, 22, 23, 24, 25, 26] (by decide +kernel) (by decide +kernel)
set_option maxRecDepth 20000 in
theorem gX0_points_X0_lossByClock : GoodIn wsX0_points (wsV RX0 31 RX0 yX0_lossByClock wsX0_lossByClock) := goodIn_app (goodIn_of _ (by decide +kernel)) ggX0_points_X0_lossByClock
set_option maxRecDepth 20000 in
theorem ggX0_points_X11_downBy : GoodIn wsX0_points wsX11_downBy := goodIn_r _ [18, 19, 20, 21, 22] (by decide +kernel) (by decide +kernel)
set_option maxRecDepth 20000 in
theorem gX0_points_X11_downBy_n35 : GoodIn wsX0_points (wsX11_downBy) := ggX0_points_X11_downBy
theorem dX0_points_0 : decode cX0_points 0 = .ok (.iload_n 1, 1) := by decide +kernel
theorem dX0_points_1 : decode cX0_points 1 = .ok (.iconst 0, 1) := by decide +kernel
theorem dX0_points_2 : decode cX0_points 2 = .ok (.iconst 5, 1) := by decide +kernel
theorem dX0_points_3 : decode cX0_points 3 = .ok (.invokestatic 27, 3) := by decide +kernel
theorem dX0_points_6 : decode cX0_points 6 = .ok (.ifCond .ne 5, 3) := by decide +kernel
theorem dX0_points_9 : decode cX0_points 9 = .ok (.iconst 0, 1) := by decide +kernel
theorem dX0_points_10 : decode cX0_points 10 = .ok (.ireturn, 1) := by decide +kernel
theorem dX0_points_11 : decode cX0_points 11 = .ok (.iconst 2, 1) := by decide +kernel
theorem dX0_points_12 : decode cX0_points 12 = .ok (.aload_n 0, 1) := by decide +kernel
theorem dX0_points_13 : decode cX0_points 13 = .ok (.getfield 11, 3) := by decide +kernel
theorem dX0_points_16 : decode cX0_points 16 = .ok (.iload_n 1, 1) := by decide +kernel
theorem dX0_points_17 : decode cX0_points 17 = .ok (.aaload, 1) := by decide +kernel
theorem dX0_points_18 : decode cX0_points 18 = .ok (.iconst 0, 1) := by decide +kernel
theorem dX0_points_19 : decode cX0_points 19 = .ok (.iaload, 1) := by decide +kernel
theorem dX0_points_20 : decode cX0_points 20 = .ok (.imul, 1) := by decide +kernel
theorem dX0_points_21 : decode cX0_points 21 = .ok (.iconst 2, 1) := by decide +kernel
theorem dX0_points_22 : decode cX0_points 22 = .ok (.aload_n 0, 1) := by decide +kernel
theorem dX0_points_23 : decode cX0_points 23 = .ok (.getfield 11, 3) := by decide +kernel
theorem dX0_points_26 : decode cX0_points 26 = .ok (.iload_n 1, 1) := by decide +kernel
theorem dX0_points_27 : decode cX0_points 27 = .ok (.aaload, 1) := by decide +kernel
theorem dX0_points_28 : decode cX0_points 28 = .ok (.iconst 1, 1) := by decide +kernel
theorem dX0_points_29 : decode cX0_points 29 = .ok (.iaload, 1) := by decide +kernel
theorem dX0_points_30 : decode cX0_points 30 = .ok (.imul, 1) := by decide +kernel
theorem dX0_points_31 : decode cX0_points 31 = .ok (.iadd, 1) := by decide +kernel
theorem dX0_points_32 : decode cX0_points 32 = .ok (.aload_n 0, 1) := by decide +kernel
theorem dX0_points_33 : decode cX0_points 33 = .ok (.getfield 11, 3) := by decide +kernel
theorem dX0_points_36 : decode cX0_points 36 = .ok (.iload_n 1, 1) := by decide +kernel
theorem dX0_points_37 : decode cX0_points 37 = .ok (.aaload, 1) := by decide +kernel
theorem dX0_points_38 : decode cX0_points 38 = .ok (.iconst 2, 1) := by decide +kernel
theorem dX0_points_39 : decode cX0_points 39 = .ok (.iaload, 1) := by decide +kernel
theorem dX0_points_40 : decode cX0_points 40 = .ok (.iadd, 1) := by decide +kernel
theorem dX0_points_41 : decode cX0_points 41 = .ok (.aload_n 0, 1) := by decide +kernel
theorem dX0_points_42 : decode cX0_points 42 = .ok (.getfield 11, 3) := by decide +kernel
theorem dX0_points_45 : decode cX0_points 45 = .ok (.iload_n 1, 1) := by decide +kernel
theorem dX0_points_46 : decode cX0_points 46 = .ok (.aaload, 1) := by decide +kernel
theorem dX0_points_47 : decode cX0_points 47 = .ok (.iconst 3, 1) := by decide +kernel
theorem dX0_points_48 : decode cX0_points 48 = .ok (.iaload, 1) := by decide +kernel
theorem dX0_points_49 : decode cX0_points 49 = .ok (.iadd, 1) := by decide +kernel
theorem dX0_points_50 : decode cX0_points 50 = .ok (.istore_n 3, 1) := by decide +kernel
theorem dX0_points_51 : decode cX0_points 51 = .ok (.iload_n 1, 1) := by decide +kernel
theorem dX0_points_52 : decode cX0_points 52 = .ok (.ifCond .ne 11, 3) := by decide +kernel
theorem dX0_points_55 : decode cX0_points 55 = .ok (.aload_n 0, 1) := by decide +kernel
theorem dX0_points_56 : decode cX0_points 56 = .ok (.iload_n 2, 1) := by decide +kernel
theorem dX0_points_57 : decode cX0_points 57 = .ok (.invokevirtual 31, 3) := by decide +kernel
theorem dX0_points_60 : decode cX0_points 60 = .ok (.goto 4, 3) := by decide +kernel
theorem dX0_points_63 : decode cX0_points 63 = .ok (.iconst 0, 1) := by decide +kernel
theorem dX0_points_64 : decode cX0_points 64 = .ok (.istore 4, 2) := by decide +kernel
theorem dX0_points_66 : decode cX0_points 66 = .ok (.iload_n 3, 1) := by decide +kernel
theorem dX0_points_67 : decode cX0_points 67 = .ok (.bipush 6, 2) := by decide +kernel
theorem dX0_points_69 : decode cX0_points 69 = .ok (.invokestatic 35, 3) := by decide +kernel
theorem dX0_points_72 : decode cX0_points 72 = .ok (.aload_n 0, 1) := by decide +kernel
theorem dX0_points_73 : decode cX0_points 73 = .ok (.getfield 16, 3) := by decide +kernel
theorem dX0_points_76 : decode cX0_points 76 = .ok (.iload_n 1, 1) := by decide +kernel
theorem dX0_points_77 : decode cX0_points 77 = .ok (.iaload, 1) := by decide +kernel
theorem dX0_points_78 : decode cX0_points 78 = .ok (.isub, 1) := by decide +kernel
theorem dX0_points_79 : decode cX0_points 79 = .ok (.iload 4, 2) := by decide +kernel
theorem dX0_points_81 : decode cX0_points 81 = .ok (.isub, 1) := by decide +kernel
theorem dX0_points_82 : decode cX0_points 82 = .ok (.iconst 0, 1) := by decide +kernel
theorem dX0_points_83 : decode cX0_points 83 = .ok (.invokestatic 39, 3) := by decide +kernel
theorem dX0_points_86 : decode cX0_points 86 = .ok (.ireturn, 1) := by decide +kernel
def fX0_points (m : dM) (p0 : Nat) (p1 : Int32) (p2 : Int32) : Option Int32 := dg (dkg p0 1) ((fX11_isWithin m p1 0 5).bind (fun v2 => if v2 = 0 then some 0 else dg (dIx p1 (dL 436)) (dg (dkg (436 + 1 + (Int32.toNatClampNeg (p1))) 20) (dg (dIx 0 (dL (436 + 1 + (Int32.toNatClampNeg (p1))))) (dg (dIx p1 (dL 436)) (dg (dkg (436 + 1 + (Int32.toNatClampNeg (p1))) 20) (dg (dIx 1 (dL (436 + 1 + (Int32.toNatClampNeg (p1))))) (dg (dIx p1 (dL 436)) (dg (dkg (436 + 1 + (Int32.toNatClampNeg (p1))) 20) (dg (dIx 2 (dL (436 + 1 + (Int32.toNatClampNeg (p1))))) (dg (dIx p1 (dL 436)) (dg (dkg (436 + 1 + (Int32.toNatClampNeg (p1))) 20) (dg (dIx 3 (dL (436 + 1 + (Int32.toNatClampNeg (p1))))) (dlet ((((2 * (m.1 (436 + 1 + (Int32.toNatClampNeg (p1))) (Int32.toNatClampNeg (0)))) + (2 * (m.1 (436 + 1 + (Int32.toNatClampNeg (p1))) (Int32.toNatClampNeg (1))))) + (m.1 (436 + 1 + (Int32.toNatClampNeg (p1))) (Int32.toNatClampNeg (2)))) + (m.1 (436 + 1 + (Int32.toNatClampNeg (p1))) (Int32.toNatClampNeg (3))) : Int32) (fun v7 => if p1 = 0 then (fX0_lossByClock m p0 p2).bind (fun v11 => (fX11_downBy m v7 6).bind (fun v13 => dg (dIx p1 (dL 443)) (some (if ((v13 - (m.1 443 (Int32.toNatClampNeg (p1)))) - v11) < 0 then 0 else ((v13 - (m.1 443 (Int32.toNatClampNeg (p1)))) - v11))))) else (fX11_downBy m v7 6).bind (fun v9 => dg (dIx p1 (dL 443)) (some (if ((v9 - (m.1 443 (Int32.toNatClampNeg (p1)))) - 0) < 0 then 0 else ((v9 - (m.1 443 (Int32.toNatClampNeg (p1)))) - 0)))))))))))))))))))
set_option maxHeartbeats 4000000 in
set_option maxRecDepth 100000 in
theorem kX0_points (l : Launch) (g : dG) {m : dM} {p0 : Nat} {p1 : Int32} {p2 : Int32} {r0 : Int32} (h : fX0_points m p0 p1 p2 = some r0) : dMet l g yX0_points wsX0_points (dRm 3 65) [.ref (dad g p0), .int p1, .int p2] m (dQI g r0 m) := by
  refine dof (cc := cX0_points) (maxL := 5) (ret := (some .int)) _ (plainFor_of_name (by decide)) rfl (Nat.le_of_ble_eq_true rfl) ?_
  intro p e s mth below meth c S hr hlk hE H ls hP hS hl
  have S : CallFix p mth c cX0_points 5 s _ wsX0_points RX0 := S
  have hl : lv_has ls 5 [(0, .ref (dad g p0)), (1, .int p1), (2, .int p2)] := hl
  obtain ⟨locs, hlocs⟩ : ∃ z : List Loc, z = [] := ⟨_, rfl⟩
  rw [← hlocs] at hS ⊢
  have in0 : ∀ w ∈ wsX00, w ∈ wsX0_points := by decide +kernel
  unfold fX0_points at h
  obtain ⟨k0, h⟩ := d_g h
  have k0 := d_k k0
  refine lv_iload_n S.1 S.2.1 dX0_points_0 rfl (lv_at hl 1 rfl) ?_
  refine lv_iconst (v := 0) S.1 S.2.1 dX0_points_1 (by decide) ?_
  refine lv_iconst (v := 5) S.1 S.2.1 dX0_points_2 (by decide) ?_
  obtain ⟨v2, hc1, h⟩ := d_b h
  refine dri (va_runSN (As := [.int p1, .int 0, .int 5]) (rest := []) S (kX11_isWithin l g hc1) ⟨va_cnB 3 S.2.2.2.2 gX0_points_X11_isWithin_n27 rfl rfl rfl (dnq_RX0_27 hE) (S.2.2.2.2 (.initialized RX11) (List.mem_of_getElem? (i := 8) rfl)) ynX11_isWithin ⟨Nat.le_of_ble_eq_true rfl, Nat.le_of_ble_eq_true rfl⟩, S.2.2.2.2 (.static yX11_isWithin) (List.mem_of_getElem? (i := 7) rfl), trivial⟩ (dpS hE hP hS) rfl rfl hl.1 rfl (lv_room (Nat.le_of_ble_eq_true rfl)) dX0_points_3 ⟨Nat.le_of_ble_eq_true rfl, Nat.le_of_ble_eq_true rfl⟩) hS (fun H locs hP hS => ?_)
  refine lv_if_ne (tgt := 11) S.1 S.2.1 dX0_points_6 (by decide) (fun cq => ?_) (fun cq => ?_)
  · have h := d_f cq h
    refine lv_iconst (v := 2) S.1 S.2.1 dX0_points_11 (by decide) ?_
    refine lv_aload_n S.1 S.2.1 dX0_points_12 rfl (lv_at hl 0 rfl) ?_
    refine dgf0_0 S in0 hE hP k0 (S.2.2.2.2 (.fieldLink RX0 11 "DrillField$Contest" "captions" "[[I") (List.mem_of_getElem? (i := 1) rfl)) dX0_points_13 ?_
    refine lv_iload_n S.1 S.2.1 dX0_points_16 rfl (lv_at hl 1 rfl) ?_
    obtain ⟨hi, h⟩ := d_g h
    obtain ⟨hk3, h⟩ := d_g h
    have hk3 := d_k hk3
    refine d_aald (r := dad g (436 + 1 + (Int32.toNatClampNeg (p1)))) (ty := .array .int) 5 S hE hP (dat25 dk_436) rfl rfl hi (if_pos (dIx_lt hi)) dX0_points_17 ?_
    refine lv_iconst (v := 0) S.1 S.2.1 dX0_points_18 (by decide) ?_
    obtain ⟨hi, h⟩ := d_g h
    refine d_iald S hE hP hk3 hi dX0_points_19 ?_
    refine lv_imul S.1 S.2.1 dX0_points_20 ?_
    refine lv_iconst (v := 2) S.1 S.2.1 dX0_points_21 (by decide) ?_
    refine lv_aload_n S.1 S.2.1 dX0_points_22 rfl (lv_at hl 0 rfl) ?_
    refine dgf0_0 S in0 hE hP k0 (S.2.2.2.2 (.fieldLink RX0 11 "DrillField$Contest" "captions" "[[I") (List.mem_of_getElem? (i := 1) rfl)) dX0_points_23 ?_
    refine lv_iload_n S.1 S.2.1 dX0_points_26 rfl (lv_at hl 1 rfl) ?_
    obtain ⟨hi, h⟩ := d_g h
    obtain ⟨hk4, h⟩ := d_g h
    have hk4 := d_k hk4
    refine d_aald (r := dad g (436 + 1 + (Int32.toNatClampNeg (p1)))) (ty := .array .int) 5 S hE hP (dat25 dk_436) rfl rfl hi (if_pos (dIx_lt hi)) dX0_points_27 ?_
    refine lv_iconst (v := 1) S.1 S.2.1 dX0_points_28 (by decide) ?_
    obtain ⟨hi, h⟩ := d_g h
    refine d_iald S hE hP hk4 hi dX0_points_29 ?_
    refine lv_imul S.1 S.2.1 dX0_points_30 ?_
    refine lv_iadd S.1 S.2.1 dX0_points_31 ?_
    refine lv_aload_n S.1 S.2.1 dX0_points_32 rfl (lv_at hl 0 rfl) ?_
    refine dgf0_0 S in0 hE hP k0 (S.2.2.2.2 (.fieldLink RX0 11 "DrillField$Contest" "captions" "[[I") (List.mem_of_getElem? (i := 1) rfl)) dX0_points_33 ?_
    refine lv_iload_n S.1 S.2.1 dX0_points_36 rfl (lv_at hl 1 rfl) ?_
    obtain ⟨hi, h⟩ := d_g h
    obtain ⟨hk5, h⟩ := d_g h
    have hk5 := d_k hk5
    refine d_aald (r := dad g (436 + 1 + (Int32.toNatClampNeg (p1)))) (ty := .array .int) 5 S hE hP (dat25 dk_436) rfl rfl hi (if_pos (dIx_lt hi)) dX0_points_37 ?_
    refine lv_iconst (v := 2) S.1 S.2.1 dX0_points_38 (by decide) ?_
    obtain ⟨hi, h⟩ := d_g h
    refine d_iald S hE hP hk5 hi dX0_points_39 ?_
    refine lv_iadd S.1 S.2.1 dX0_points_40 ?_
    refine lv_aload_n S.1 S.2.1 dX0_points_41 rfl (lv_at hl 0 rfl) ?_
    refine dgf0_0 S in0 hE hP k0 (S.2.2.2.2 (.fieldLink RX0 11 "DrillField$Contest" "captions" "[[I") (List.mem_of_getElem? (i := 1) rfl)) dX0_points_42 ?_
    refine lv_iload_n S.1 S.2.1 dX0_points_45 rfl (lv_at hl 1 rfl) ?_
    obtain ⟨hi, h⟩ := d_g h
    obtain ⟨hk6, h⟩ := d_g h
    have hk6 := d_k hk6
    refine d_aald (r := dad g (436 + 1 + (Int32.toNatClampNeg (p1)))) (ty := .array .int) 5 S hE hP (dat25 dk_436) rfl rfl hi (if_pos (dIx_lt hi)) dX0_points_46 ?_
    refine lv_iconst (v := 3) S.1 S.2.1 dX0_points_47 (by decide) ?_
    obtain ⟨hi, h⟩ := d_g h
    refine d_iald S hE hP hk6 hi dX0_points_48 ?_
    refine lv_iadd S.1 S.2.1 dX0_points_49 ?_
    refine lv_topi (fun v7 ev7 => ?_)
    have h := d_let ev7 h
    refine lv_istore_n (lv' := [(3, .int v7), (0, .ref (dad g p0)), (1, .int p1), (2, .int p2)]) S.1 S.2.1 dX0_points_50 rfl hl (by decide) rfl (fun ls hl => ?_)
    refine lv_iload_n S.1 S.2.1 dX0_points_51 rfl (lv_at hl 2 rfl) ?_
    refine lv_if_ne (tgt := 63) S.1 S.2.1 dX0_points_52 (by decide) (fun cq => ?_) (fun cq => ?_)
    · have h := d_f cq h
      refine lv_iconst (v := 0) S.1 S.2.1 dX0_points_63 (by decide) ?_
      refine lv_istore (lv' := [(4, .int 0), (3, .int v7), (0, .ref (dad g p0)), (1, .int p1), (2, .int p2)]) S.1 S.2.1 dX0_points_64 hl (by decide) rfl (fun ls hl => ?_)
      refine lv_iload_n S.1 S.2.1 dX0_points_66 rfl (lv_at hl 1 rfl) ?_
      refine lv_bipush (v := 6) S.1 S.2.1 dX0_points_67 (by decide) ?_
      obtain ⟨v9, hc8, h⟩ := d_b h
      refine dri (va_runSN (As := [.int v7, .int 6]) (rest := []) S (kX11_downBy l g hc8) ⟨va_cnB 2 S.2.2.2.2 gX0_points_X11_downBy_n35 rfl rfl rfl (dnq_RX0_35 hE) (S.2.2.2.2 (.initialized RX11) (List.mem_of_getElem? (i := 8) rfl)) ynX11_downBy ⟨Nat.le_of_ble_eq_true rfl, Nat.le_of_ble_eq_true rfl⟩, S.2.2.2.2 (.static yX11_downBy) (List.mem_of_getElem? (i := 17) rfl), trivial⟩ (dpS hE hP hS) rfl rfl hl.1 rfl (lv_room (Nat.le_of_ble_eq_true rfl)) dX0_points_69 ⟨Nat.le_of_ble_eq_true rfl, Nat.le_of_ble_eq_true rfl⟩) hS (fun H locs hP hS => ?_)
      refine lv_aload_n S.1 S.2.1 dX0_points_72 rfl (lv_at hl 2 rfl) ?_
      refine dgf0_1 S in0 hE hP k0 (S.2.2.2.2 (.fieldLink RX0 16 "DrillField$Contest" "penalties" "[I") (List.mem_of_getElem? (i := 2) rfl)) dX0_points_73 ?_
      refine lv_iload_n S.1 S.2.1 dX0_points_76 rfl (lv_at hl 3 rfl) ?_
      obtain ⟨hi, h⟩ := d_g h
      refine d_iald S hE hP dk_443 hi dX0_points_77 ?_
      refine lv_isub S.1 S.2.1 dX0_points_78 ?_
      refine lv_iload S.1 S.2.1 dX0_points_79 (lv_at hl 0 rfl) ?_
      refine lv_isub S.1 S.2.1 dX0_points_81 ?_
      refine lv_iconst (v := 0) S.1 S.2.1 dX0_points_82 (by decide) ?_
      refine va_mmax S.1 S.2.1 (S.2.2.1.trans hl.1.symm) S.2.2.2.1 (S.2.2.2.2 (.methodLink RX0 39 Lib.Math.max.name) (List.mem_of_getElem? (i := 3) rfl)) (S.2.2.2.2 (.static Lib.Math.max.name) (List.mem_of_getElem? (i := 4) rfl)) (S.2.2.2.2 (.initialized "java/lang/Math") (List.mem_of_getElem? (i := 5) rfl)) (S.2.2.2.2 (.code Lib.Math.max.name Lib.Math.max.code 2 (some .int)) (List.mem_of_getElem? (i := 6) rfl)) (Nat.le_of_ble_eq_true rfl) (Nat.le_of_ble_eq_true rfl) (Nat.le_of_ble_eq_true rfl) (Nat.le_of_ble_eq_true rfl) dX0_points_83 ?_
      obtain rfl := Option.some.inj h
      exact dti S hr hlk hE hP hS rfl dX0_points_86
    · have h := d_t cq h
      refine lv_aload_n S.1 S.2.1 dX0_points_55 rfl (lv_at hl 1 rfl) ?_
      refine lv_iload_n S.1 S.2.1 dX0_points_56 rfl (lv_at hl 3 rfl) ?_
      obtain ⟨v11, hc10, h⟩ := d_b h
      refine dri (va_runV (As := [.int p2]) (rest := []) S (kX0_lossByClock l g hc10) (cwV 1 S.2.2.2.2 gX0_points_X0_lossByClock rfl rfl rfl ynX0_lossByClock ⟨Nat.le_of_ble_eq_true rfl, Nat.le_of_ble_eq_true rfl⟩) (dpV hE hP hS (ci := 0) rfl (dat1 k0)) rfl rfl hl.1 rfl (lv_room (Nat.le_of_ble_eq_true rfl)) dX0_points_57 ⟨Nat.le_of_ble_eq_true rfl, Nat.le_of_ble_eq_true rfl⟩) hS (fun H locs hP hS => ?_)
      refine lv_goto (tgt := 64) S.1 S.2.1 dX0_points_60 (by decide) ?_
      refine lv_istore (lv' := [(4, .int v11), (3, .int v7), (0, .ref (dad g p0)), (1, .int p1), (2, .int p2)]) S.1 S.2.1 dX0_points_64 hl (by decide) rfl (fun ls hl => ?_)
      refine lv_iload_n S.1 S.2.1 dX0_points_66 rfl (lv_at hl 1 rfl) ?_
      refine lv_bipush (v := 6) S.1 S.2.1 dX0_points_67 (by decide) ?_
      obtain ⟨v13, hc12, h⟩ := d_b h
      refine dri (va_runSN (As := [.int v7, .int 6]) (rest := []) S (kX11_downBy l g hc12) ⟨va_cnB 2 S.2.2.2.2 gX0_points_X11_downBy_n35 rfl rfl rfl (dnq_RX0_35 hE) (S.2.2.2.2 (.initialized RX11) (List.mem_of_getElem? (i := 8) rfl)) ynX11_downBy ⟨Nat.le_of_ble_eq_true rfl, Nat.le_of_ble_eq_true rfl⟩, S.2.2.2.2 (.static yX11_downBy) (List.mem_of_getElem? (i := 17) rfl), trivial⟩ (dpS hE hP hS) rfl rfl hl.1 rfl (lv_room (Nat.le_of_ble_eq_true rfl)) dX0_points_69 ⟨Nat.le_of_ble_eq_true rfl, Nat.le_of_ble_eq_true rfl⟩) hS (fun H locs hP hS => ?_)
      refine lv_aload_n S.1 S.2.1 dX0_points_72 rfl (lv_at hl 2 rfl) ?_
      refine dgf0_1 S in0 hE hP k0 (S.2.2.2.2 (.fieldLink RX0 16 "DrillField$Contest" "penalties" "[I") (List.mem_of_getElem? (i := 2) rfl)) dX0_points_73 ?_
      refine lv_iload_n S.1 S.2.1 dX0_points_76 rfl (lv_at hl 3 rfl) ?_
      obtain ⟨hi, h⟩ := d_g h
      refine d_iald S hE hP dk_443 hi dX0_points_77 ?_
      refine lv_isub S.1 S.2.1 dX0_points_78 ?_
      refine lv_iload S.1 S.2.1 dX0_points_79 (lv_at hl 0 rfl) ?_
      refine lv_isub S.1 S.2.1 dX0_points_81 ?_
      refine lv_iconst (v := 0) S.1 S.2.1 dX0_points_82 (by decide) ?_
      refine va_mmax S.1 S.2.1 (S.2.2.1.trans hl.1.symm) S.2.2.2.1 (S.2.2.2.2 (.methodLink RX0 39 Lib.Math.max.name) (List.mem_of_getElem? (i := 3) rfl)) (S.2.2.2.2 (.static Lib.Math.max.name) (List.mem_of_getElem? (i := 4) rfl)) (S.2.2.2.2 (.initialized "java/lang/Math") (List.mem_of_getElem? (i := 5) rfl)) (S.2.2.2.2 (.code Lib.Math.max.name Lib.Math.max.code 2 (some .int)) (List.mem_of_getElem? (i := 6) rfl)) (Nat.le_of_ble_eq_true rfl) (Nat.le_of_ble_eq_true rfl) (Nat.le_of_ble_eq_true rfl) (Nat.le_of_ble_eq_true rfl) dX0_points_83 ?_
      obtain rfl := Option.some.inj h
      exact dti S hr hlk hE hP hS rfl dX0_points_86
  · have h := d_t cq h
    refine lv_iconst (v := 0) S.1 S.2.1 dX0_points_9 (by decide) ?_
    obtain rfl := Option.some.inj h
    exact dti S hr hlk hE hP hS rfl dX0_points_10
set_option maxRecDepth 20000 in
theorem ggX0_told_X11_isWithin : GoodIn wsX0_told wsX11_isWithin := goodIn_r _ [4] (by decide +kernel) (by decide +kernel)
set_option maxRecDepth 20000 in
theorem gX0_told_X11_isWithin_n27 : GoodIn wsX0_told (wsX11_isWithin) := ggX0_told_X11_isWithin
theorem dX0_told_0 : decode cX0_told 0 = .ok (.iload_n 1, 1) := by decide +kernel
theorem dX0_told_1 : decode cX0_told 1 = .ok (.iconst 0, 1) := by decide +kernel
theorem dX0_told_2 : decode cX0_told 2 = .ok (.iconst 5, 1) := by decide +kernel
theorem dX0_told_3 : decode cX0_told 3 = .ok (.invokestatic 27, 3) := by decide +kernel
theorem dX0_told_6 : decode cX0_told 6 = .ok (.ifCond .eq 16, 3) := by decide +kernel
theorem dX0_told_9 : decode cX0_told 9 = .ok (.iload_n 2, 1) := by decide +kernel
theorem dX0_told_10 : decode cX0_told 10 = .ok (.iconst 0, 1) := by decide +kernel
theorem dX0_told_11 : decode cX0_told 11 = .ok (.iconst 3, 1) := by decide +kernel
theorem dX0_told_12 : decode cX0_told 12 = .ok (.invokestatic 27, 3) := by decide +kernel
theorem dX0_told_15 : decode cX0_told 15 = .ok (.ifCond .eq 7, 3) := by decide +kernel
theorem dX0_told_18 : decode cX0_told 18 = .ok (.iconst 1, 1) := by decide +kernel
theorem dX0_told_19 : decode cX0_told 19 = .ok (.goto 4, 3) := by decide +kernel
theorem dX0_told_22 : decode cX0_told 22 = .ok (.iconst 0, 1) := by decide +kernel
theorem dX0_told_23 : decode cX0_told 23 = .ok (.istore_n 3, 1) := by decide +kernel
theorem dX0_told_24 : decode cX0_told 24 = .ok (.iload_n 3, 1) := by decide +kernel
theorem dX0_told_25 : decode cX0_told 25 = .ok (.ifCond .eq 14, 3) := by decide +kernel
theorem dX0_told_28 : decode cX0_told 28 = .ok (.aload_n 0, 1) := by decide +kernel
theorem dX0_told_29 : decode cX0_told 29 = .ok (.getfield 11, 3) := by decide +kernel
theorem dX0_told_32 : decode cX0_told 32 = .ok (.iload_n 1, 1) := by decide +kernel
theorem dX0_told_33 : decode cX0_told 33 = .ok (.aaload, 1) := by decide +kernel
theorem dX0_told_34 : decode cX0_told 34 = .ok (.iload_n 2, 1) := by decide +kernel
theorem dX0_told_35 : decode cX0_told 35 = .ok (.iaload, 1) := by decide +kernel
theorem dX0_told_36 : decode cX0_told 36 = .ok (.goto 4, 3) := by decide +kernel
theorem dX0_told_39 : decode cX0_told 39 = .ok (.iconst 0, 1) := by decide +kernel
theorem dX0_told_40 : decode cX0_told 40 = .ok (.ireturn, 1) := by decide +kernel
def fX0_told (m : dM) (p0 : Nat) (p1 : Int32) (p2 : Int32) : Option Int32 := dg (dkg p0 1) ((fX11_isWithin m p1 0 5).bind (fun v2 => if v2 = 0 then some 0 else (fX11_isWithin m p2 0 3).bind (fun v4 => if v4 = 0 then some 0 else dg (dIx p1 (dL 436)) (dg (dkg (436 + 1 + (Int32.toNatClampNeg (p1))) 20) (dg (dIx p2 (dL (436 + 1 + (Int32.toNatClampNeg (p1))))) (some (m.1 (436 + 1 + (Int32.toNatClampNeg (p1))) (Int32.toNatClampNeg (p2)))))))))
set_option maxHeartbeats 4000000 in
set_option maxRecDepth 100000 in
theorem kX0_told (l : Launch) (g : dG) {m : dM} {p0 : Nat} {p1 : Int32} {p2 : Int32} {r0 : Int32} (h : fX0_told m p0 p1 p2 = some r0) : dMet l g yX0_told wsX0_told (dRm 1 22) [.ref (dad g p0), .int p1, .int p2] m (dQI g r0 m) := by
  refine dof (cc := cX0_told) (maxL := 4) (ret := (some .int)) _ (plainFor_of_name (by decide)) rfl (Nat.le_of_ble_eq_true rfl) ?_
  intro p e s mth below meth c S hr hlk hE H ls hP hS hl
  have S : CallFix p mth c cX0_told 4 s _ wsX0_told RX0 := S
  have hl : lv_has ls 4 [(0, .ref (dad g p0)), (1, .int p1), (2, .int p2)] := hl
  obtain ⟨locs, hlocs⟩ : ∃ z : List Loc, z = [] := ⟨_, rfl⟩
  rw [← hlocs] at hS ⊢
  have in0 : ∀ w ∈ wsX00, w ∈ wsX0_told := by decide +kernel
  unfold fX0_told at h
  obtain ⟨k0, h⟩ := d_g h
  have k0 := d_k k0
  refine lv_iload_n S.1 S.2.1 dX0_told_0 rfl (lv_at hl 1 rfl) ?_
  refine lv_iconst (v := 0) S.1 S.2.1 dX0_told_1 (by decide) ?_
  refine lv_iconst (v := 5) S.1 S.2.1 dX0_told_2 (by decide) ?_
  obtain ⟨v2, hc1, h⟩ := d_b h
  refine dri (va_runSN (As := [.int p1, .int 0, .int 5]) (rest := []) S (kX11_isWithin l g hc1) ⟨va_cnB 3 S.2.2.2.2 gX0_told_X11_isWithin_n27 rfl rfl rfl (dnq_RX0_27 hE) (S.2.2.2.2 (.initialized RX11) (List.mem_of_getElem? (i := 3) rfl)) ynX11_isWithin ⟨Nat.le_of_ble_eq_true rfl, Nat.le_of_ble_eq_true rfl⟩, S.2.2.2.2 (.static yX11_isWithin) (List.mem_of_getElem? (i := 2) rfl), trivial⟩ (dpS hE hP hS) rfl rfl hl.1 rfl (lv_room (Nat.le_of_ble_eq_true rfl)) dX0_told_3 ⟨Nat.le_of_ble_eq_true rfl, Nat.le_of_ble_eq_true rfl⟩) hS (fun H locs hP hS => ?_)
  refine lv_if_eq (tgt := 22) S.1 S.2.1 dX0_told_6 (by decide) (fun cq => ?_) (fun cq => ?_)
  · have h := d_t cq h
    refine lv_iconst (v := 0) S.1 S.2.1 dX0_told_22 (by decide) ?_
    refine lv_istore_n (lv' := [(3, .int 0), (0, .ref (dad g p0)), (1, .int p1), (2, .int p2)]) S.1 S.2.1 dX0_told_23 rfl hl (by decide) rfl (fun ls hl => ?_)
    refine lv_iload_n S.1 S.2.1 dX0_told_24 rfl (lv_at hl 0 rfl) ?_
    refine lv_if_eq (tgt := 39) S.1 S.2.1 dX0_told_25 (by decide) (fun cq => ?_) (fun cq => ?_)
    · refine lv_iconst (v := 0) S.1 S.2.1 dX0_told_39 (by decide) ?_
      obtain rfl := Option.some.inj h
      exact dti S hr hlk hE hP hS rfl dX0_told_40
    · exact absurd (by decide) cq
  · have h := d_f cq h
    refine lv_iload_n S.1 S.2.1 dX0_told_9 rfl (lv_at hl 2 rfl) ?_
    refine lv_iconst (v := 0) S.1 S.2.1 dX0_told_10 (by decide) ?_
    refine lv_iconst (v := 3) S.1 S.2.1 dX0_told_11 (by decide) ?_
    obtain ⟨v4, hc3, h⟩ := d_b h
    refine dri (va_runSN (As := [.int p2, .int 0, .int 3]) (rest := []) S (kX11_isWithin l g hc3) ⟨va_cnB 3 S.2.2.2.2 gX0_told_X11_isWithin_n27 rfl rfl rfl (dnq_RX0_27 hE) (S.2.2.2.2 (.initialized RX11) (List.mem_of_getElem? (i := 3) rfl)) ynX11_isWithin ⟨Nat.le_of_ble_eq_true rfl, Nat.le_of_ble_eq_true rfl⟩, S.2.2.2.2 (.static yX11_isWithin) (List.mem_of_getElem? (i := 2) rfl), trivial⟩ (dpS hE hP hS) rfl rfl hl.1 rfl (lv_room (Nat.le_of_ble_eq_true rfl)) dX0_told_12 ⟨Nat.le_of_ble_eq_true rfl, Nat.le_of_ble_eq_true rfl⟩) hS (fun H locs hP hS => ?_)
    refine lv_if_eq (tgt := 22) S.1 S.2.1 dX0_told_15 (by decide) (fun cq => ?_) (fun cq => ?_)
    · have h := d_t cq h
      refine lv_iconst (v := 0) S.1 S.2.1 dX0_told_22 (by decide) ?_
      refine lv_istore_n (lv' := [(3, .int 0), (0, .ref (dad g p0)), (1, .int p1), (2, .int p2)]) S.1 S.2.1 dX0_told_23 rfl hl (by decide) rfl (fun ls hl => ?_)
      refine lv_iload_n S.1 S.2.1 dX0_told_24 rfl (lv_at hl 0 rfl) ?_
      refine lv_if_eq (tgt := 39) S.1 S.2.1 dX0_told_25 (by decide) (fun cq => ?_) (fun cq => ?_)
      · refine lv_iconst (v := 0) S.1 S.2.1 dX0_told_39 (by decide) ?_
        obtain rfl := Option.some.inj h
        exact dti S hr hlk hE hP hS rfl dX0_told_40
      · exact absurd (by decide) cq
    · have h := d_f cq h
      refine lv_iconst (v := 1) S.1 S.2.1 dX0_told_18 (by decide) ?_
      refine lv_goto (tgt := 23) S.1 S.2.1 dX0_told_19 (by decide) ?_
      refine lv_istore_n (lv' := [(3, .int 1), (0, .ref (dad g p0)), (1, .int p1), (2, .int p2)]) S.1 S.2.1 dX0_told_23 rfl hl (by decide) rfl (fun ls hl => ?_)
      refine lv_iload_n S.1 S.2.1 dX0_told_24 rfl (lv_at hl 0 rfl) ?_
      refine lv_if_eq (tgt := 39) S.1 S.2.1 dX0_told_25 (by decide) (fun cq => ?_) (fun cq => ?_)
      · exact absurd cq (by decide)
      · refine lv_aload_n S.1 S.2.1 dX0_told_28 rfl (lv_at hl 1 rfl) ?_
        refine dgf0_0 S in0 hE hP k0 (S.2.2.2.2 (.fieldLink RX0 11 "DrillField$Contest" "captions" "[[I") (List.mem_of_getElem? (i := 1) rfl)) dX0_told_29 ?_
        refine lv_iload_n S.1 S.2.1 dX0_told_32 rfl (lv_at hl 2 rfl) ?_
        obtain ⟨hi, h⟩ := d_g h
        obtain ⟨hk5, h⟩ := d_g h
        have hk5 := d_k hk5
        refine d_aald (r := dad g (436 + 1 + (Int32.toNatClampNeg (p1)))) (ty := .array .int) 5 S hE hP (dat25 dk_436) rfl rfl hi (if_pos (dIx_lt hi)) dX0_told_33 ?_
        refine lv_iload_n S.1 S.2.1 dX0_told_34 rfl (lv_at hl 3 rfl) ?_
        obtain ⟨hi, h⟩ := d_g h
        refine d_iald S hE hP hk5 hi dX0_told_35 ?_
        refine lv_goto (tgt := 40) S.1 S.2.1 dX0_told_36 (by decide) ?_
        obtain rfl := Option.some.inj h
        exact dti S hr hlk hE hP hS rfl dX0_told_40
set_option maxRecDepth 20000 in
theorem ggX0_isAhead_X0_points : GoodIn wsX0_isAhead wsX0_points := goodIn_r _ [5, 6, 7, 8, 9, 10, 11, 12, 13, 14, 15, 16, 17, 4, 18, 19, 20, 21, 22, 23, 24, 25, 26, 31, 32, 33, 34] (by decide +kernel) (by decide +kernel)
set_option maxRecDepth 20000 in
theorem gX0_isAhead_X0_points : GoodIn wsX0_isAhead (wsV RX0 47 RX0 yX0_points wsX0_points) := goodIn_app (goodIn_of _ (by decide +kernel)) ggX0_isAhead_X0_points
set_option maxRecDepth 20000 in
theorem ggX0_isAhead_X0_told : GoodIn wsX0_isAhead wsX0_told := goodIn_r _ [30, 6, 12, 13, 14, 31, 32, 33, 34] (by decide +kernel) (by decide +kernel)
set_option maxRecDepth 20000 in
theorem gX0_isAhead_X0_told : GoodIn wsX0_isAhead (wsV RX0 50 RX0 yX0_told wsX0_told) := goodIn_app (goodIn_of _ (by decide +kernel)) ggX0_isAhead_X0_told
theorem dX0_isAhead_0 : decode cX0_isAhead 0 = .ok (.aload_n 0, 1) := by decide +kernel
theorem dX0_isAhead_1 : decode cX0_isAhead 1 = .ok (.iload_n 1, 1) := by decide +kernel
theorem dX0_isAhead_2 : decode cX0_isAhead 2 = .ok (.iload_n 3, 1) := by decide +kernel
theorem dX0_isAhead_3 : decode cX0_isAhead 3 = .ok (.invokevirtual 47, 3) := by decide +kernel
theorem dX0_isAhead_6 : decode cX0_isAhead 6 = .ok (.aload_n 0, 1) := by decide +kernel
theorem dX0_isAhead_7 : decode cX0_isAhead 7 = .ok (.iload_n 2, 1) := by decide +kernel
theorem dX0_isAhead_8 : decode cX0_isAhead 8 = .ok (.iload_n 3, 1) := by decide +kernel
theorem dX0_isAhead_9 : decode cX0_isAhead 9 = .ok (.invokevirtual 47, 3) := by decide +kernel
theorem dX0_isAhead_12 : decode cX0_isAhead 12 = .ok (.isub, 1) := by decide +kernel
theorem dX0_isAhead_13 : decode cX0_isAhead 13 = .ok (.istore 4, 2) := by decide +kernel
theorem dX0_isAhead_15 : decode cX0_isAhead 15 = .ok (.iconst 0, 1) := by decide +kernel
theorem dX0_isAhead_16 : decode cX0_isAhead 16 = .ok (.istore 5, 2) := by decide +kernel
theorem dX0_isAhead_18 : decode cX0_isAhead 18 = .ok (.iload 5, 2) := by decide +kernel
theorem dX0_isAhead_20 : decode cX0_isAhead 20 = .ok (.iconst 4, 1) := by decide +kernel
theorem dX0_isAhead_21 : decode cX0_isAhead 21 = .ok (.if_icmp .ge 31, 3) := by decide +kernel
theorem dX0_isAhead_24 : decode cX0_isAhead 24 = .ok (.iload 4, 2) := by decide +kernel
theorem dX0_isAhead_26 : decode cX0_isAhead 26 = .ok (.ifCond .ne 26, 3) := by decide +kernel
theorem dX0_isAhead_29 : decode cX0_isAhead 29 = .ok (.aload_n 0, 1) := by decide +kernel
theorem dX0_isAhead_30 : decode cX0_isAhead 30 = .ok (.iload_n 1, 1) := by decide +kernel
theorem dX0_isAhead_31 : decode cX0_isAhead 31 = .ok (.iload 5, 2) := by decide +kernel
theorem dX0_isAhead_33 : decode cX0_isAhead 33 = .ok (.invokevirtual 50, 3) := by decide +kernel
theorem dX0_isAhead_36 : decode cX0_isAhead 36 = .ok (.aload_n 0, 1) := by decide +kernel
theorem dX0_isAhead_37 : decode cX0_isAhead 37 = .ok (.iload_n 2, 1) := by decide +kernel
theorem dX0_isAhead_38 : decode cX0_isAhead 38 = .ok (.iload 5, 2) := by decide +kernel
theorem dX0_isAhead_40 : decode cX0_isAhead 40 = .ok (.invokevirtual 50, 3) := by decide +kernel
theorem dX0_isAhead_43 : decode cX0_isAhead 43 = .ok (.isub, 1) := by decide +kernel
theorem dX0_isAhead_44 : decode cX0_isAhead 44 = .ok (.istore 4, 2) := by decide +kernel
theorem dX0_isAhead_46 : decode cX0_isAhead 46 = .ok (.iinc 5 1, 3) := by decide +kernel
theorem dX0_isAhead_49 : decode cX0_isAhead 49 = .ok (.goto (-31), 3) := by decide +kernel
theorem dX0_isAhead_52 : decode cX0_isAhead 52 = .ok (.iload 4, 2) := by decide +kernel
theorem dX0_isAhead_54 : decode cX0_isAhead 54 = .ok (.ifCond .ne 16, 3) := by decide +kernel
theorem dX0_isAhead_57 : decode cX0_isAhead 57 = .ok (.iload_n 1, 1) := by decide +kernel
theorem dX0_isAhead_58 : decode cX0_isAhead 58 = .ok (.iload_n 2, 1) := by decide +kernel
theorem dX0_isAhead_59 : decode cX0_isAhead 59 = .ok (.if_icmp .ge 7, 3) := by decide +kernel
theorem dX0_isAhead_62 : decode cX0_isAhead 62 = .ok (.iconst 1, 1) := by decide +kernel
theorem dX0_isAhead_63 : decode cX0_isAhead 63 = .ok (.goto 17, 3) := by decide +kernel
theorem dX0_isAhead_66 : decode cX0_isAhead 66 = .ok (.iconst 0, 1) := by decide +kernel
theorem dX0_isAhead_67 : decode cX0_isAhead 67 = .ok (.goto 13, 3) := by decide +kernel
theorem dX0_isAhead_70 : decode cX0_isAhead 70 = .ok (.iload 4, 2) := by decide +kernel
theorem dX0_isAhead_72 : decode cX0_isAhead 72 = .ok (.ifCond .le 7, 3) := by decide +kernel
theorem dX0_isAhead_75 : decode cX0_isAhead 75 = .ok (.iconst 1, 1) := by decide +kernel
theorem dX0_isAhead_76 : decode cX0_isAhead 76 = .ok (.goto 4, 3) := by decide +kernel
theorem dX0_isAhead_79 : decode cX0_isAhead 79 = .ok (.iconst 0, 1) := by decide +kernel
theorem dX0_isAhead_80 : decode cX0_isAhead 80 = .ok (.ireturn, 1) := by decide +kernel
def fX0_isAhead_l18 (m : dM) (p0 : Nat) (p1 : Int32) (p2 : Int32) (v7 : Int32) (v8 : Int32) : Option ((Int32 × Int32) ⊕ Int32) := if 4 ≤ v7 then some (.inr v8) else if v8 = 0 then (fX0_told m p0 p1 v7).bind (fun v16 => (fX0_told m p0 p2 v7).bind (fun v18 => dlet (v16 - v18 : Int32) (fun v19 => dlet (v7 + 1 : Int32) (fun v20 => some (.inl (v20, v19)))))) else some (.inr v8)
def fX0_isAhead (m : dM) (p0 : Nat) (p1 : Int32) (p2 : Int32) (p3 : Int32) : Option Int32 := dg (dkg p0 1) ((fX0_points m p0 p1 p3).bind (fun v2 => (fX0_points m p0 p2 p3).bind (fun v4 => dlet (v2 - v4 : Int32) (fun v5 => (dlp (fun q => dP2 q (fun v7 v8 => fX0_isAhead_l18 m p0 p1 p2 v7 v8)) dFl (0, v5)).bind (fun q => dP1 q (fun v21 => if v21 = 0 then if p2 ≤ p1 then some 0 else some 1 else if v21 ≤ 0 then some 0 else some 1))))))
set_option maxHeartbeats 4000000 in
set_option maxRecDepth 100000 in
theorem kX0_isAhead (l : Launch) (g : dG) {m : dM} {p0 : Nat} {p1 : Int32} {p2 : Int32} {p3 : Int32} {r0 : Int32} (h : fX0_isAhead m p0 p1 p2 p3 = some r0) : dMet l g yX0_isAhead wsX0_isAhead (dRm 4 89) [.ref (dad g p0), .int p1, .int p2, .int p3] m (dQI g r0 m) := by
  refine dof (cc := cX0_isAhead) (maxL := 6) (ret := (some .boolean)) _ (plainFor_of_name (by decide)) rfl (Nat.le_of_ble_eq_true rfl) ?_
  intro p e s mth below meth c S hr hlk hE H ls hP hS hl
  have S : CallFix p mth c cX0_isAhead 6 s _ wsX0_isAhead RX0 := S
  have hl : lv_has ls 6 [(0, .ref (dad g p0)), (1, .int p1), (2, .int p2), (3, .int p3)] := hl
  obtain ⟨locs, hlocs⟩ : ∃ z : List Loc, z = [] := ⟨_, rfl⟩
  rw [← hlocs] at hS ⊢
  unfold fX0_isAhead at h
  obtain ⟨k0, h⟩ := d_g h
  have k0 := d_k k0
  refine lv_aload_n S.1 S.2.1 dX0_isAhead_0 rfl (lv_at hl 0 rfl) ?_
  refine lv_iload_n S.1 S.2.1 dX0_isAhead_1 rfl (lv_at hl 1 rfl) ?_
  refine lv_iload_n S.1 S.2.1 dX0_isAhead_2 rfl (lv_at hl 3 rfl) ?_
  obtain ⟨v2, hc1, h⟩ := d_b h
  refine dri (va_runV (As := [.int p1, .int p3]) (rest := []) S (kX0_points l g hc1) (cwV 2 S.2.2.2.2 gX0_isAhead_X0_points rfl rfl rfl ynX0_points ⟨Nat.le_of_ble_eq_true rfl, Nat.le_of_ble_eq_true rfl⟩) (dpV hE hP hS (ci := 0) rfl (dat1 k0)) rfl rfl hl.1 rfl (lv_room (Nat.le_of_ble_eq_true rfl)) dX0_isAhead_3 ⟨Nat.le_of_ble_eq_true rfl, Nat.le_of_ble_eq_true rfl⟩) hS (fun H locs hP hS => ?_)
  refine lv_aload_n S.1 S.2.1 dX0_isAhead_6 rfl (lv_at hl 0 rfl) ?_
  refine lv_iload_n S.1 S.2.1 dX0_isAhead_7 rfl (lv_at hl 2 rfl) ?_
  refine lv_iload_n S.1 S.2.1 dX0_isAhead_8 rfl (lv_at hl 3 rfl) ?_
  obtain ⟨v4, hc3, h⟩ := d_b h
  refine dri (va_runV (As := [.int p2, .int p3]) (rest := [.int v2]) S (kX0_points l g hc3) (cwV 2 S.2.2.2.2 gX0_isAhead_X0_points rfl rfl rfl ynX0_points ⟨Nat.le_of_ble_eq_true rfl, Nat.le_of_ble_eq_true rfl⟩) (dpV hE hP hS (ci := 0) rfl (dat1 k0)) rfl rfl hl.1 rfl (lv_room (Nat.le_of_ble_eq_true rfl)) dX0_isAhead_9 ⟨Nat.le_of_ble_eq_true rfl, Nat.le_of_ble_eq_true rfl⟩) hS (fun H locs hP hS => ?_)
  refine lv_isub S.1 S.2.1 dX0_isAhead_12 ?_
  refine lv_topi (fun v5 ev5 => ?_)
  have h := d_let ev5 h
  refine lv_istore (lv' := [(4, .int v5), (0, .ref (dad g p0)), (1, .int p1), (2, .int p2), (3, .int p3)]) S.1 S.2.1 dX0_isAhead_13 hl (by decide) rfl (fun ls hl => ?_)
  refine lv_iconst (v := 0) S.1 S.2.1 dX0_isAhead_15 (by decide) ?_
  refine lv_istore (lv' := [(5, .int 0), (4, .int v5), (0, .ref (dad g p0)), (1, .int p1), (2, .int p2), (3, .int p3)]) S.1 S.2.1 dX0_isAhead_16 hl (by decide) rfl (fun ls hl => ?_)
  obtain ⟨qL6, hqL6, h⟩ := d_b h
  refine d_lp (Hd := fun q => match q with | (v7, v8) => ∀ (H : Heap) (locs : List Loc) (ls : Array Slot), va_P g.1 vwCl (dws g m) H → va_S (dA g) s.heap H locs → lv_has ls 6 [(5, .int v7), (4, .int v8), (0, .ref (dad g p0)), (1, .int p1), (2, .int p2)] → W p l e (headSpec wsX0_isAhead (dRm 4 89)).room s mth (([.ref (dad g p0), .int p1, .int p2, .int p3] : List Value).toArray) below meth c H locs 0 0 (MQ below (dQI g r0 m) (([.ref (dad g p0), .int p1, .int p2, .int p3] : List Value).toArray) s 0 0 (dA g)) (F0 mth 18 ls [])) (K := fun q => (fun (v21 : _) => ∀ (H : Heap) (locs : List Loc) (ls : Array Slot), va_P g.1 vwCl (dws g m) H → va_S (dA g) s.heap H locs → lv_has ls 6 [(1, .int p1), (2, .int p2), (4, .int v21)] → W p l e (headSpec wsX0_isAhead (dRm 4 89)).room s mth (([.ref (dad g p0), .int p1, .int p2, .int p3] : List Value).toArray) below meth c H locs 0 0 (MQ below (dQI g r0 m) (([.ref (dad g p0), .int p1, .int p2, .int p3] : List Value).toArray) s 0 0 (dA g)) (F0 mth 52 ls [])) q) ?_ dFl _ qL6 hqL6 ?_ H locs ls hP hS (lv_sub hl [0, 1, 2, 3, 4] rfl)
  · intro q o h hCL6 hEL6
    obtain ⟨v7, v8⟩ := q
    have h : fX0_isAhead_l18 m p0 p1 p2 v7 v8 = some o := h
    intro H locs ls hP hS hl
    have hP : va_P g.1 vwCl (dws g m) H := hP
    have hl : lv_has ls 6 [(5, .int v7), (4, .int v8), (0, .ref (dad g p0)), (1, .int p1), (2, .int p2)] := hl
    unfold fX0_isAhead_l18 at h
    refine lv_iload S.1 S.2.1 dX0_isAhead_18 (lv_at hl 0 rfl) ?_
    refine lv_iconst (v := 4) S.1 S.2.1 dX0_isAhead_20 (by decide) ?_
    refine lv_icmp_ge (tgt := 52) S.1 S.2.1 dX0_isAhead_21 (by decide) (fun cq => ?_) (fun cq => ?_)
    · have h := d_t cq h
      obtain rfl := Option.some.inj h
      exact hEL6 _ rfl H locs ls hP hS (lv_sub hl [3, 4, 1] rfl)
    · have h := d_f cq h
      refine lv_iload S.1 S.2.1 dX0_isAhead_24 (lv_at hl 1 rfl) ?_
      refine lv_if_ne (tgt := 52) S.1 S.2.1 dX0_isAhead_26 (by decide) (fun cq => ?_) (fun cq => ?_)
      · have h := d_f cq h
        obtain rfl := Option.some.inj h
        exact hEL6 _ rfl H locs ls hP hS (lv_sub hl [3, 4, 1] rfl)
      · have h := d_t cq h
        refine lv_aload_n S.1 S.2.1 dX0_isAhead_29 rfl (lv_at hl 2 rfl) ?_
        refine lv_iload_n S.1 S.2.1 dX0_isAhead_30 rfl (lv_at hl 3 rfl) ?_
        refine lv_iload S.1 S.2.1 dX0_isAhead_31 (lv_at hl 0 rfl) ?_
        obtain ⟨v16, hc15, h⟩ := d_b h
        refine dri (va_runV (As := [.int p1, .int v7]) (rest := []) S (kX0_told l g hc15) (cwV 2 S.2.2.2.2 gX0_isAhead_X0_told rfl rfl rfl ynX0_told ⟨Nat.le_of_ble_eq_true rfl, Nat.le_of_ble_eq_true rfl⟩) (dpV hE hP hS (ci := 0) rfl (dat1 k0)) rfl rfl hl.1 rfl (lv_room (Nat.le_of_ble_eq_true rfl)) dX0_isAhead_33 ⟨Nat.le_of_ble_eq_true rfl, Nat.le_of_ble_eq_true rfl⟩) hS (fun H locs hP hS => ?_)
        refine lv_aload_n S.1 S.2.1 dX0_isAhead_36 rfl (lv_at hl 2 rfl) ?_
        refine lv_iload_n S.1 S.2.1 dX0_isAhead_37 rfl (lv_at hl 4 rfl) ?_
        refine lv_iload S.1 S.2.1 dX0_isAhead_38 (lv_at hl 0 rfl) ?_
        obtain ⟨v18, hc17, h⟩ := d_b h
        refine dri (va_runV (As := [.int p2, .int v7]) (rest := [.int v16]) S (kX0_told l g hc17) (cwV 2 S.2.2.2.2 gX0_isAhead_X0_told rfl rfl rfl ynX0_told ⟨Nat.le_of_ble_eq_true rfl, Nat.le_of_ble_eq_true rfl⟩) (dpV hE hP hS (ci := 0) rfl (dat1 k0)) rfl rfl hl.1 rfl (lv_room (Nat.le_of_ble_eq_true rfl)) dX0_isAhead_40 ⟨Nat.le_of_ble_eq_true rfl, Nat.le_of_ble_eq_true rfl⟩) hS (fun H locs hP hS => ?_)
        refine lv_isub S.1 S.2.1 dX0_isAhead_43 ?_
        refine lv_topi (fun v19 ev19 => ?_)
        have h := d_let ev19 h
        refine lv_istore (lv' := [(4, .int v19), (5, .int v7), (0, .ref (dad g p0)), (1, .int p1), (2, .int p2)]) S.1 S.2.1 dX0_isAhead_44 hl (by decide) rfl (fun ls hl => ?_)
        obtain ⟨v20, ev20⟩ : ∃ z : Int32, z = v7 + 1 := ⟨_, rfl⟩
        have h := d_let ev20 h
        refine lv_iinc (v := v20) (lv' := [(5, .int v20), (4, .int v19), (0, .ref (dad g p0)), (1, .int p1), (2, .int p2)]) S.1 S.2.1 dX0_isAhead_46 hl (k := 1) rfl (by rw [ev20]; rfl) (by decide) rfl (fun ls hl => ?_)
        refine lv_goto (tgt := 18) S.1 S.2.1 dX0_isAhead_49 (by decide) ?_
        obtain rfl := Option.some.inj h
        exact hCL6 _ rfl H locs ls hP hS (lv_sub hl [0, 1, 2, 3, 4] rfl)
  · obtain ⟨v21, rfl⟩ : ∃ z, z = qL6 := ⟨_, rfl⟩
    have h := d_p1 h
    intro H locs ls hP hS hl
    have hP : va_P g.1 vwCl (dws g m) H := hP
    have hl : lv_has ls 6 [(1, .int p1), (2, .int p2), (4, .int v21)] := hl
    refine lv_iload S.1 S.2.1 dX0_isAhead_52 (lv_at hl 2 rfl) ?_
    refine lv_if_ne (tgt := 70) S.1 S.2.1 dX0_isAhead_54 (by decide) (fun cq => ?_) (fun cq => ?_)
    · have h := d_f cq h
      refine lv_iload S.1 S.2.1 dX0_isAhead_70 (lv_at hl 2 rfl) ?_
      refine lv_if_le (tgt := 79) S.1 S.2.1 dX0_isAhead_72 (by decide) (fun cq => ?_) (fun cq => ?_)
      · have h := d_t cq h
        refine lv_iconst (v := 0) S.1 S.2.1 dX0_isAhead_79 (by decide) ?_
        obtain rfl := Option.some.inj h
        exact dti S hr hlk hE hP hS rfl dX0_isAhead_80
      · have h := d_f cq h
        refine lv_iconst (v := 1) S.1 S.2.1 dX0_isAhead_75 (by decide) ?_
        refine lv_goto (tgt := 80) S.1 S.2.1 dX0_isAhead_76 (by decide) ?_
        obtain rfl := Option.some.inj h
        exact dti S hr hlk hE hP hS rfl dX0_isAhead_80
    · have h := d_t cq h
      refine lv_iload_n S.1 S.2.1 dX0_isAhead_57 rfl (lv_at hl 0 rfl) ?_
      refine lv_iload_n S.1 S.2.1 dX0_isAhead_58 rfl (lv_at hl 1 rfl) ?_
      refine lv_icmp_ge (tgt := 66) S.1 S.2.1 dX0_isAhead_59 (by decide) (fun cq => ?_) (fun cq => ?_)
      · have h := d_t cq h
        refine lv_iconst (v := 0) S.1 S.2.1 dX0_isAhead_66 (by decide) ?_
        refine lv_goto (tgt := 80) S.1 S.2.1 dX0_isAhead_67 (by decide) ?_
        obtain rfl := Option.some.inj h
        exact dti S hr hlk hE hP hS rfl dX0_isAhead_80
      · have h := d_f cq h
        refine lv_iconst (v := 1) S.1 S.2.1 dX0_isAhead_62 (by decide) ?_
        refine lv_goto (tgt := 80) S.1 S.2.1 dX0_isAhead_63 (by decide) ?_
        obtain rfl := Option.some.inj h
        exact dti S hr hlk hE hP hS rfl dX0_isAhead_80
set_option maxRecDepth 20000 in
theorem ggX0_bandAt_X0_isAhead : GoodIn wsX0_bandAt wsX0_isAhead := goodIn_r _ [5, 6, 7, 8, 4, 9, 10, 11, 12, 13, 14, 15, 16, 17, 18, 19, 20, 21, 22, 23, 24, 25, 26, 27, 28, 29, 30, 31, 32, 33, 34, 35, 36, 37, 38] (by decide +kernel) (by decide +kernel)
set_option maxRecDepth 20000 in
theorem gX0_bandAt_X0_isAhead : GoodIn wsX0_bandAt (wsV RX0 44 RX0 yX0_isAhead wsX0_isAhead) := goodIn_app (goodIn_of _ (by decide +kernel)) ggX0_bandAt_X0_isAhead
theorem dX0_bandAt_0 : decode cX0_bandAt 0 = .ok (.iconst 0, 1) := by decide +kernel
theorem dX0_bandAt_1 : decode cX0_bandAt 1 = .ok (.istore_n 3, 1) := by decide +kernel
theorem dX0_bandAt_2 : decode cX0_bandAt 2 = .ok (.iload_n 3, 1) := by decide +kernel
theorem dX0_bandAt_3 : decode cX0_bandAt 3 = .ok (.bipush 6, 2) := by decide +kernel
theorem dX0_bandAt_5 : decode cX0_bandAt 5 = .ok (.if_icmp .ge 56, 3) := by decide +kernel
theorem dX0_bandAt_8 : decode cX0_bandAt 8 = .ok (.iconst 0, 1) := by decide +kernel
theorem dX0_bandAt_9 : decode cX0_bandAt 9 = .ok (.istore 4, 2) := by decide +kernel
theorem dX0_bandAt_11 : decode cX0_bandAt 11 = .ok (.iconst 0, 1) := by decide +kernel
theorem dX0_bandAt_12 : decode cX0_bandAt 12 = .ok (.istore 5, 2) := by decide +kernel
theorem dX0_bandAt_14 : decode cX0_bandAt 14 = .ok (.iload 5, 2) := by decide +kernel
theorem dX0_bandAt_16 : decode cX0_bandAt 16 = .ok (.bipush 6, 2) := by decide +kernel
theorem dX0_bandAt_18 : decode cX0_bandAt 18 = .ok (.if_icmp .ge 29, 3) := by decide +kernel
theorem dX0_bandAt_21 : decode cX0_bandAt 21 = .ok (.iload 5, 2) := by decide +kernel
theorem dX0_bandAt_23 : decode cX0_bandAt 23 = .ok (.iload_n 3, 1) := by decide +kernel
theorem dX0_bandAt_24 : decode cX0_bandAt 24 = .ok (.if_icmp .eq 17, 3) := by decide +kernel
theorem dX0_bandAt_27 : decode cX0_bandAt 27 = .ok (.aload_n 0, 1) := by decide +kernel
theorem dX0_bandAt_28 : decode cX0_bandAt 28 = .ok (.iload 5, 2) := by decide +kernel
theorem dX0_bandAt_30 : decode cX0_bandAt 30 = .ok (.iload_n 3, 1) := by decide +kernel
theorem dX0_bandAt_31 : decode cX0_bandAt 31 = .ok (.iload_n 2, 1) := by decide +kernel
theorem dX0_bandAt_32 : decode cX0_bandAt 32 = .ok (.invokevirtual 44, 3) := by decide +kernel
theorem dX0_bandAt_35 : decode cX0_bandAt 35 = .ok (.ifCond .eq 6, 3) := by decide +kernel
theorem dX0_bandAt_38 : decode cX0_bandAt 38 = .ok (.iinc 4 1, 3) := by decide +kernel
theorem dX0_bandAt_41 : decode cX0_bandAt 41 = .ok (.iinc 5 1, 3) := by decide +kernel
theorem dX0_bandAt_44 : decode cX0_bandAt 44 = .ok (.goto (-30), 3) := by decide +kernel
theorem dX0_bandAt_47 : decode cX0_bandAt 47 = .ok (.iload 4, 2) := by decide +kernel
theorem dX0_bandAt_49 : decode cX0_bandAt 49 = .ok (.iload_n 1, 1) := by decide +kernel
theorem dX0_bandAt_50 : decode cX0_bandAt 50 = .ok (.if_icmp .ne 5, 3) := by decide +kernel
theorem dX0_bandAt_53 : decode cX0_bandAt 53 = .ok (.iload_n 3, 1) := by decide +kernel
theorem dX0_bandAt_54 : decode cX0_bandAt 54 = .ok (.ireturn, 1) := by decide +kernel
theorem dX0_bandAt_55 : decode cX0_bandAt 55 = .ok (.iinc 3 1, 3) := by decide +kernel
theorem dX0_bandAt_58 : decode cX0_bandAt 58 = .ok (.goto (-56), 3) := by decide +kernel
theorem dX0_bandAt_61 : decode cX0_bandAt 61 = .ok (.iconst (-1), 1) := by decide +kernel
theorem dX0_bandAt_62 : decode cX0_bandAt 62 = .ok (.ireturn, 1) := by decide +kernel
def fX0_bandAt_l14 (m : dM) (p0 : Nat) (p2 : Int32) (v2 : Int32) (v21 : Int32) (v22 : Int32) : Option ((Int32 × Int32) ⊕ Int32) := if 6 ≤ v21 then some (.inr v22) else if v21 = v2 then dlet (v21 + 1 : Int32) (fun v29 => some (.inl (v29, v22))) else (fX0_isAhead m p0 v21 v2 p2).bind (fun v31 => if v31 = 0 then dlet (v21 + 1 : Int32) (fun v32 => some (.inl (v32, v22))) else dlet (v22 + 1 : Int32) (fun v33 => dlet (v21 + 1 : Int32) (fun v34 => some (.inl (v34, v33)))))
def fX0_bandAt_l2 (m : dM) (p0 : Nat) (p1 : Int32) (p2 : Int32) (v2 : Int32) : Option (Int32 ⊕ (Int32 ⊕ Unit)) := if 6 ≤ v2 then some (.inr (.inr ())) else (dlp (fun q => dP2 q (fun v21 v22 => fX0_bandAt_l14 m p0 p2 v2 v21 v22)) dFl (0, 0)).bind (fun q => dP1 q (fun v35 => if v35 = p1 then some (.inr (.inl v2)) else dlet (v2 + 1 : Int32) (fun v36 => some (.inl v36))))
def fX0_bandAt (m : dM) (p0 : Nat) (p1 : Int32) (p2 : Int32) : Option Int32 := dg (dkg p0 1) ((dlp (fun q => (fun v2 => fX0_bandAt_l2 m p0 p1 p2 v2) q) dFl 0).bind (fun q => dS q (fun q => dP1 q (fun v37 => some v37)) (fun _ => some (-1))))
set_option maxHeartbeats 4000000 in
set_option maxRecDepth 100000 in
theorem kX0_bandAt (l : Launch) (g : dG) {m : dM} {p0 : Nat} {p1 : Int32} {p2 : Int32} {r0 : Int32} (h : fX0_bandAt m p0 p1 p2 = some r0) : dMet l g yX0_bandAt wsX0_bandAt (dRm 5 114) [.ref (dad g p0), .int p1, .int p2] m (dQI g r0 m) := by
  refine dof (cc := cX0_bandAt) (maxL := 6) (ret := (some .int)) _ (plainFor_of_name (by decide)) rfl (Nat.le_of_ble_eq_true rfl) ?_
  intro p e s mth below meth c S hr hlk hE H ls hP hS hl
  have S : CallFix p mth c cX0_bandAt 6 s _ wsX0_bandAt RX0 := S
  have hl : lv_has ls 6 [(0, .ref (dad g p0)), (1, .int p1), (2, .int p2)] := hl
  obtain ⟨locs, hlocs⟩ : ∃ z : List Loc, z = [] := ⟨_, rfl⟩
  rw [← hlocs] at hS ⊢
  unfold fX0_bandAt at h
  obtain ⟨k0, h⟩ := d_g h
  have k0 := d_k k0
  refine lv_iconst (v := 0) S.1 S.2.1 dX0_bandAt_0 (by decide) ?_
  refine lv_istore_n (lv' := [(3, .int 0), (0, .ref (dad g p0)), (1, .int p1), (2, .int p2)]) S.1 S.2.1 dX0_bandAt_1 rfl hl (by decide) rfl (fun ls hl => ?_)
  obtain ⟨qL1, hqL1, h⟩ := d_b h
  refine d_lp (Hd := fun q => (fun (v2 : _) => ∀ (H : Heap) (locs : List Loc) (ls : Array Slot), va_P g.1 vwCl (dws g m) H → va_S (dA g) s.heap H locs → lv_has ls 6 [(3, .int v2), (0, .ref (dad g p0)), (1, .int p1), (2, .int p2)] → W p l e (headSpec wsX0_bandAt (dRm 5 114)).room s mth (([.ref (dad g p0), .int p1, .int p2] : List Value).toArray) below meth c H locs 0 0 (MQ below (dQI g r0 m) (([.ref (dad g p0), .int p1, .int p2] : List Value).toArray) s 0 0 (dA g)) (F0 mth 2 ls [])) q) (K := fun q => match q with | .inl q => (fun (v37 : _) => ∀ (H : Heap) (locs : List Loc) (ls : Array Slot), va_P g.1 vwCl (dws g m) H → va_S (dA g) s.heap H locs → lv_has ls 6 [(3, .int v37)] → W p l e (headSpec wsX0_bandAt (dRm 5 114)).room s mth (([.ref (dad g p0), .int p1, .int p2] : List Value).toArray) below meth c H locs 0 0 (MQ below (dQI g r0 m) (([.ref (dad g p0), .int p1, .int p2] : List Value).toArray) s 0 0 (dA g)) (F0 mth 53 ls [])) q | .inr q => ∀ (H : Heap) (locs : List Loc) (ls : Array Slot), va_P g.1 vwCl (dws g m) H → va_S (dA g) s.heap H locs → lv_has ls 6 [] → W p l e (headSpec wsX0_bandAt (dRm 5 114)).room s mth (([.ref (dad g p0), .int p1, .int p2] : List Value).toArray) below meth c H locs 0 0 (MQ below (dQI g r0 m) (([.ref (dad g p0), .int p1, .int p2] : List Value).toArray) s 0 0 (dA g)) (F0 mth 61 ls [])) ?_ dFl _ qL1 hqL1 ?_ H locs ls hP hS (lv_sub hl [0, 1, 2, 3] rfl)
  · intro q o h hCL1 hEL1
    obtain ⟨v2, rfl⟩ : ∃ z, z = q := ⟨_, rfl⟩
    have h : fX0_bandAt_l2 m p0 p1 p2 v2 = some o := h
    intro H locs ls hP hS hl
    have hP : va_P g.1 vwCl (dws g m) H := hP
    have hl : lv_has ls 6 [(3, .int v2), (0, .ref (dad g p0)), (1, .int p1), (2, .int p2)] := hl
    unfold fX0_bandAt_l2 at h
    refine lv_iload_n S.1 S.2.1 dX0_bandAt_2 rfl (lv_at hl 0 rfl) ?_
    refine lv_bipush (v := 6) S.1 S.2.1 dX0_bandAt_3 (by decide) ?_
    refine lv_icmp_ge (tgt := 61) S.1 S.2.1 dX0_bandAt_5 (by decide) (fun cq => ?_) (fun cq => ?_)
    · have h := d_t cq h
      obtain rfl := Option.some.inj h
      exact hEL1 _ rfl H locs ls hP hS (lv_sub hl [] rfl)
    · have h := d_f cq h
      refine lv_iconst (v := 0) S.1 S.2.1 dX0_bandAt_8 (by decide) ?_
      refine lv_istore (lv' := [(4, .int 0), (3, .int v2), (0, .ref (dad g p0)), (1, .int p1), (2, .int p2)]) S.1 S.2.1 dX0_bandAt_9 hl (by decide) rfl (fun ls hl => ?_)
      refine lv_iconst (v := 0) S.1 S.2.1 dX0_bandAt_11 (by decide) ?_
      refine lv_istore (lv' := [(5, .int 0), (4, .int 0), (3, .int v2), (0, .ref (dad g p0)), (1, .int p1), (2, .int p2)]) S.1 S.2.1 dX0_bandAt_12 hl (by decide) rfl (fun ls hl => ?_)
      obtain ⟨qL20, hqL20, h⟩ := d_b h
      refine d_lp (Hd := fun q => match q with | (v21, v22) => ∀ (H : Heap) (locs : List Loc) (ls : Array Slot), va_P g.1 vwCl (dws g m) H → va_S (dA g) s.heap H locs → lv_has ls 6 [(5, .int v21), (4, .int v22), (3, .int v2), (0, .ref (dad g p0)), (1, .int p1), (2, .int p2)] → W p l e (headSpec wsX0_bandAt (dRm 5 114)).room s mth (([.ref (dad g p0), .int p1, .int p2] : List Value).toArray) below meth c H locs 0 0 (MQ below (dQI g r0 m) (([.ref (dad g p0), .int p1, .int p2] : List Value).toArray) s 0 0 (dA g)) (F0 mth 14 ls [])) (K := fun q => (fun (v35 : _) => ∀ (H : Heap) (locs : List Loc) (ls : Array Slot), va_P g.1 vwCl (dws g m) H → va_S (dA g) s.heap H locs → lv_has ls 6 [(0, .ref (dad g p0)), (1, .int p1), (2, .int p2), (3, .int v2), (4, .int v35)] → W p l e (headSpec wsX0_bandAt (dRm 5 114)).room s mth (([.ref (dad g p0), .int p1, .int p2] : List Value).toArray) below meth c H locs 0 0 (MQ below (dQI g r0 m) (([.ref (dad g p0), .int p1, .int p2] : List Value).toArray) s 0 0 (dA g)) (F0 mth 47 ls [])) q) ?_ dFl _ qL20 hqL20 ?_ H locs ls hP hS (lv_sub hl [0, 1, 2, 3, 4, 5] rfl)
      · intro q o h hCL20 hEL20
        obtain ⟨v21, v22⟩ := q
        have h : fX0_bandAt_l14 m p0 p2 v2 v21 v22 = some o := h
        intro H locs ls hP hS hl
        have hP : va_P g.1 vwCl (dws g m) H := hP
        have hl : lv_has ls 6 [(5, .int v21), (4, .int v22), (3, .int v2), (0, .ref (dad g p0)), (1, .int p1), (2, .int p2)] := hl
        unfold fX0_bandAt_l14 at h
        refine lv_iload S.1 S.2.1 dX0_bandAt_14 (lv_at hl 0 rfl) ?_
        refine lv_bipush (v := 6) S.1 S.2.1 dX0_bandAt_16 (by decide) ?_
        refine lv_icmp_ge (tgt := 47) S.1 S.2.1 dX0_bandAt_18 (by decide) (fun cq => ?_) (fun cq => ?_)
        · have h := d_t cq h
          obtain rfl := Option.some.inj h
          exact hEL20 _ rfl H locs ls hP hS (lv_sub hl [3, 4, 5, 2, 1] rfl)
        · have h := d_f cq h
          refine lv_iload S.1 S.2.1 dX0_bandAt_21 (lv_at hl 0 rfl) ?_
          refine lv_iload_n S.1 S.2.1 dX0_bandAt_23 rfl (lv_at hl 2 rfl) ?_
          refine lv_icmp_eq (tgt := 41) S.1 S.2.1 dX0_bandAt_24 (by decide) (fun cq => ?_) (fun cq => ?_)
          · have h := d_t cq h
            obtain ⟨v29, ev29⟩ : ∃ z : Int32, z = v21 + 1 := ⟨_, rfl⟩
            have h := d_let ev29 h
            refine lv_iinc (v := v29) (lv' := [(5, .int v29), (4, .int v22), (3, .int v2), (0, .ref (dad g p0)), (1, .int p1), (2, .int p2)]) S.1 S.2.1 dX0_bandAt_41 hl (k := 0) rfl (by rw [ev29]; rfl) (by decide) rfl (fun ls hl => ?_)
            refine lv_goto (tgt := 14) S.1 S.2.1 dX0_bandAt_44 (by decide) ?_
            obtain rfl := Option.some.inj h
            exact hCL20 _ rfl H locs ls hP hS (lv_sub hl [0, 1, 2, 3, 4, 5] rfl)
          · have h := d_f cq h
            refine lv_aload_n S.1 S.2.1 dX0_bandAt_27 rfl (lv_at hl 3 rfl) ?_
            refine lv_iload S.1 S.2.1 dX0_bandAt_28 (lv_at hl 0 rfl) ?_
            refine lv_iload_n S.1 S.2.1 dX0_bandAt_30 rfl (lv_at hl 2 rfl) ?_
            refine lv_iload_n S.1 S.2.1 dX0_bandAt_31 rfl (lv_at hl 5 rfl) ?_
            obtain ⟨v31, hc30, h⟩ := d_b h
            refine dri (va_runV (As := [.int v21, .int v2, .int p2]) (rest := []) S (kX0_isAhead l g hc30) (cwV 3 S.2.2.2.2 gX0_bandAt_X0_isAhead rfl rfl rfl ynX0_isAhead ⟨Nat.le_of_ble_eq_true rfl, Nat.le_of_ble_eq_true rfl⟩) (dpV hE hP hS (ci := 0) rfl (dat1 k0)) rfl rfl hl.1 rfl (lv_room (Nat.le_of_ble_eq_true rfl)) dX0_bandAt_32 ⟨Nat.le_of_ble_eq_true rfl, Nat.le_of_ble_eq_true rfl⟩) hS (fun H locs hP hS => ?_)
            refine lv_if_eq (tgt := 41) S.1 S.2.1 dX0_bandAt_35 (by decide) (fun cq => ?_) (fun cq => ?_)
            · have h := d_t cq h
              obtain ⟨v32, ev32⟩ : ∃ z : Int32, z = v21 + 1 := ⟨_, rfl⟩
              have h := d_let ev32 h
              refine lv_iinc (v := v32) (lv' := [(5, .int v32), (4, .int v22), (3, .int v2), (0, .ref (dad g p0)), (1, .int p1), (2, .int p2)]) S.1 S.2.1 dX0_bandAt_41 hl (k := 0) rfl (by rw [ev32]; rfl) (by decide) rfl (fun ls hl => ?_)
              refine lv_goto (tgt := 14) S.1 S.2.1 dX0_bandAt_44 (by decide) ?_
              obtain rfl := Option.some.inj h
              exact hCL20 _ rfl H locs ls hP hS (lv_sub hl [0, 1, 2, 3, 4, 5] rfl)
            · have h := d_f cq h
              obtain ⟨v33, ev33⟩ : ∃ z : Int32, z = v22 + 1 := ⟨_, rfl⟩
              have h := d_let ev33 h
              refine lv_iinc (v := v33) (lv' := [(4, .int v33), (5, .int v21), (3, .int v2), (0, .ref (dad g p0)), (1, .int p1), (2, .int p2)]) S.1 S.2.1 dX0_bandAt_38 hl (k := 1) rfl (by rw [ev33]; rfl) (by decide) rfl (fun ls hl => ?_)
              obtain ⟨v34, ev34⟩ : ∃ z : Int32, z = v21 + 1 := ⟨_, rfl⟩
              have h := d_let ev34 h
              refine lv_iinc (v := v34) (lv' := [(5, .int v34), (4, .int v33), (3, .int v2), (0, .ref (dad g p0)), (1, .int p1), (2, .int p2)]) S.1 S.2.1 dX0_bandAt_41 hl (k := 1) rfl (by rw [ev34]; rfl) (by decide) rfl (fun ls hl => ?_)
              refine lv_goto (tgt := 14) S.1 S.2.1 dX0_bandAt_44 (by decide) ?_
              obtain rfl := Option.some.inj h
              exact hCL20 _ rfl H locs ls hP hS (lv_sub hl [0, 1, 2, 3, 4, 5] rfl)
      · obtain ⟨v35, rfl⟩ : ∃ z, z = qL20 := ⟨_, rfl⟩
        have h := d_p1 h
        intro H locs ls hP hS hl
        have hP : va_P g.1 vwCl (dws g m) H := hP
        have hl : lv_has ls 6 [(0, .ref (dad g p0)), (1, .int p1), (2, .int p2), (3, .int v2), (4, .int v35)] := hl
        refine lv_iload S.1 S.2.1 dX0_bandAt_47 (lv_at hl 4 rfl) ?_
        refine lv_iload_n S.1 S.2.1 dX0_bandAt_49 rfl (lv_at hl 1 rfl) ?_
        refine lv_icmp_ne (tgt := 55) S.1 S.2.1 dX0_bandAt_50 (by decide) (fun cq => ?_) (fun cq => ?_)
        · have h := d_f cq h
          obtain ⟨v36, ev36⟩ : ∃ z : Int32, z = v2 + 1 := ⟨_, rfl⟩
          have h := d_let ev36 h
          refine lv_iinc (v := v36) (lv' := [(3, .int v36), (0, .ref (dad g p0)), (1, .int p1), (2, .int p2), (4, .int v35)]) S.1 S.2.1 dX0_bandAt_55 hl (k := 3) rfl (by rw [ev36]; rfl) (by decide) rfl (fun ls hl => ?_)
          refine lv_goto (tgt := 2) S.1 S.2.1 dX0_bandAt_58 (by decide) ?_
          obtain rfl := Option.some.inj h
          exact hCL1 _ rfl H locs ls hP hS (lv_sub hl [0, 1, 2, 3] rfl)
        · have h := d_t cq h
          obtain rfl := Option.some.inj h
          exact hEL1 _ rfl H locs ls hP hS (lv_sub hl [3] rfl)
  · rcases qL1 with qL1a | qL1b
    · have h := d_s1 h
      obtain ⟨v37, rfl⟩ : ∃ z, z = qL1a := ⟨_, rfl⟩
      have h := d_p1 h
      intro H locs ls hP hS hl
      have hP : va_P g.1 vwCl (dws g m) H := hP
      have hl : lv_has ls 6 [(3, .int v37)] := hl
      refine lv_iload_n S.1 S.2.1 dX0_bandAt_53 rfl (lv_at hl 0 rfl) ?_
      obtain rfl := Option.some.inj h
      exact dti S hr hlk hE hP hS rfl dX0_bandAt_54
    · have h := d_s2 h
      intro H locs ls hP hS hl
      have hP : va_P g.1 vwCl (dws g m) H := hP
      have hl : lv_has ls 6 [] := hl
      refine lv_iconst (v := (-1)) S.1 S.2.1 dX0_bandAt_61 (by decide) ?_
      obtain rfl := Option.some.inj h
      exact dti S hr hlk hE hP hS rfl dX0_bandAt_62
set_option maxRecDepth 20000 in
theorem ggX0_tellCaption_X11_isWithin : GoodIn wsX0_tellCaption wsX11_isWithin := goodIn_r _ [4] (by decide +kernel) (by decide +kernel)
set_option maxRecDepth 20000 in
theorem gX0_tellCaption_X11_isWithin_n27 : GoodIn wsX0_tellCaption (wsX11_isWithin) := ggX0_tellCaption_X11_isWithin
theorem dX0_tellCaption_0 : decode cX0_tellCaption 0 = .ok (.iload_n 1, 1) := by decide +kernel
theorem dX0_tellCaption_1 : decode cX0_tellCaption 1 = .ok (.iconst 0, 1) := by decide +kernel
theorem dX0_tellCaption_2 : decode cX0_tellCaption 2 = .ok (.iconst 5, 1) := by decide +kernel
theorem dX0_tellCaption_3 : decode cX0_tellCaption 3 = .ok (.invokestatic 27, 3) := by decide +kernel
theorem dX0_tellCaption_6 : decode cX0_tellCaption 6 = .ok (.ifCond .eq 21, 3) := by decide +kernel
theorem dX0_tellCaption_9 : decode cX0_tellCaption 9 = .ok (.iload_n 2, 1) := by decide +kernel
theorem dX0_tellCaption_10 : decode cX0_tellCaption 10 = .ok (.iconst 0, 1) := by decide +kernel
theorem dX0_tellCaption_11 : decode cX0_tellCaption 11 = .ok (.iconst 3, 1) := by decide +kernel
theorem dX0_tellCaption_12 : decode cX0_tellCaption 12 = .ok (.invokestatic 27, 3) := by decide +kernel
theorem dX0_tellCaption_15 : decode cX0_tellCaption 15 = .ok (.ifCond .eq 12, 3) := by decide +kernel
theorem dX0_tellCaption_18 : decode cX0_tellCaption 18 = .ok (.aload_n 0, 1) := by decide +kernel
theorem dX0_tellCaption_19 : decode cX0_tellCaption 19 = .ok (.getfield 11, 3) := by decide +kernel
theorem dX0_tellCaption_22 : decode cX0_tellCaption 22 = .ok (.iload_n 1, 1) := by decide +kernel
theorem dX0_tellCaption_23 : decode cX0_tellCaption 23 = .ok (.aaload, 1) := by decide +kernel
theorem dX0_tellCaption_24 : decode cX0_tellCaption 24 = .ok (.iload_n 2, 1) := by decide +kernel
theorem dX0_tellCaption_25 : decode cX0_tellCaption 25 = .ok (.iload_n 3, 1) := by decide +kernel
theorem dX0_tellCaption_26 : decode cX0_tellCaption 26 = .ok (.iastore, 1) := by decide +kernel
theorem dX0_tellCaption_27 : decode cX0_tellCaption 27 = .ok (.return_, 1) := by decide +kernel
def fX0_tellCaption (m : dM) (p0 : Nat) (p1 : Int32) (p2 : Int32) (p3 : Int32) : Option dM := dg (dkg p0 1) ((fX11_isWithin m p1 0 5).bind (fun v2 => if v2 = 0 then some m else (fX11_isWithin m p2 0 3).bind (fun v4 => if v4 = 0 then some m else dg (dIx p1 (dL 436)) (dg (dkg (436 + 1 + (Int32.toNatClampNeg (p1))) 20) (dg (dIx p2 (dL (436 + 1 + (Int32.toNatClampNeg (p1))))) (dlet (d1 m (436 + 1 + (Int32.toNatClampNeg (p1))) (Int32.toNatClampNeg (p2)) p3) (fun m6 => some m6)))))))
set_option maxHeartbeats 4000000 in
set_option maxRecDepth 100000 in
theorem kX0_tellCaption (l : Launch) (g : dG) {m : dM} {p0 : Nat} {p1 : Int32} {p2 : Int32} {p3 : Int32} {m0 : dM} (h : fX0_tellCaption m p0 p1 p2 p3 = some m0) : dMet l g yX0_tellCaption wsX0_tellCaption (dRm 1 22) [.ref (dad g p0), .int p1, .int p2, .int p3] m (dQV g m0) := by
  refine dof (cc := cX0_tellCaption) (maxL := 4) (ret := none) _ (plainFor_of_name (by decide)) rfl (Nat.le_of_ble_eq_true rfl) ?_
  intro p e s mth below meth c S hr hlk hE H ls hP hS hl
  have S : CallFix p mth c cX0_tellCaption 4 s _ wsX0_tellCaption RX0 := S
  have hl : lv_has ls 4 [(0, .ref (dad g p0)), (1, .int p1), (2, .int p2), (3, .int p3)] := hl
  obtain ⟨locs, hlocs⟩ : ∃ z : List Loc, z = [] := ⟨_, rfl⟩
  rw [← hlocs] at hS ⊢
  have in0 : ∀ w ∈ wsX00, w ∈ wsX0_tellCaption := by decide +kernel
  unfold fX0_tellCaption at h
  obtain ⟨k0, h⟩ := d_g h
  have k0 := d_k k0
  refine lv_iload_n S.1 S.2.1 dX0_tellCaption_0 rfl (lv_at hl 1 rfl) ?_
  refine lv_iconst (v := 0) S.1 S.2.1 dX0_tellCaption_1 (by decide) ?_
  refine lv_iconst (v := 5) S.1 S.2.1 dX0_tellCaption_2 (by decide) ?_
  obtain ⟨v2, hc1, h⟩ := d_b h
  refine dri (va_runSN (As := [.int p1, .int 0, .int 5]) (rest := []) S (kX11_isWithin l g hc1) ⟨va_cnB 3 S.2.2.2.2 gX0_tellCaption_X11_isWithin_n27 rfl rfl rfl (dnq_RX0_27 hE) (S.2.2.2.2 (.initialized RX11) (List.mem_of_getElem? (i := 3) rfl)) ynX11_isWithin ⟨Nat.le_of_ble_eq_true rfl, Nat.le_of_ble_eq_true rfl⟩, S.2.2.2.2 (.static yX11_isWithin) (List.mem_of_getElem? (i := 2) rfl), trivial⟩ (dpS hE hP hS) rfl rfl hl.1 rfl (lv_room (Nat.le_of_ble_eq_true rfl)) dX0_tellCaption_3 ⟨Nat.le_of_ble_eq_true rfl, Nat.le_of_ble_eq_true rfl⟩) hS (fun H locs hP hS => ?_)
  refine lv_if_eq (tgt := 27) S.1 S.2.1 dX0_tellCaption_6 (by decide) (fun cq => ?_) (fun cq => ?_)
  · have h := d_t cq h
    obtain rfl := Option.some.inj h
    exact dtv S hr hlk hE hP hS dX0_tellCaption_27
  · have h := d_f cq h
    refine lv_iload_n S.1 S.2.1 dX0_tellCaption_9 rfl (lv_at hl 2 rfl) ?_
    refine lv_iconst (v := 0) S.1 S.2.1 dX0_tellCaption_10 (by decide) ?_
    refine lv_iconst (v := 3) S.1 S.2.1 dX0_tellCaption_11 (by decide) ?_
    obtain ⟨v4, hc3, h⟩ := d_b h
    refine dri (va_runSN (As := [.int p2, .int 0, .int 3]) (rest := []) S (kX11_isWithin l g hc3) ⟨va_cnB 3 S.2.2.2.2 gX0_tellCaption_X11_isWithin_n27 rfl rfl rfl (dnq_RX0_27 hE) (S.2.2.2.2 (.initialized RX11) (List.mem_of_getElem? (i := 3) rfl)) ynX11_isWithin ⟨Nat.le_of_ble_eq_true rfl, Nat.le_of_ble_eq_true rfl⟩, S.2.2.2.2 (.static yX11_isWithin) (List.mem_of_getElem? (i := 2) rfl), trivial⟩ (dpS hE hP hS) rfl rfl hl.1 rfl (lv_room (Nat.le_of_ble_eq_true rfl)) dX0_tellCaption_12 ⟨Nat.le_of_ble_eq_true rfl, Nat.le_of_ble_eq_true rfl⟩) hS (fun H locs hP hS => ?_)
    refine lv_if_eq (tgt := 27) S.1 S.2.1 dX0_tellCaption_15 (by decide) (fun cq => ?_) (fun cq => ?_)
    · have h := d_t cq h
      obtain rfl := Option.some.inj h
      exact dtv S hr hlk hE hP hS dX0_tellCaption_27
    · have h := d_f cq h
      refine lv_aload_n S.1 S.2.1 dX0_tellCaption_18 rfl (lv_at hl 0 rfl) ?_
      refine dgf0_0 S in0 hE hP k0 (S.2.2.2.2 (.fieldLink RX0 11 "DrillField$Contest" "captions" "[[I") (List.mem_of_getElem? (i := 1) rfl)) dX0_tellCaption_19 ?_
      refine lv_iload_n S.1 S.2.1 dX0_tellCaption_22 rfl (lv_at hl 1 rfl) ?_
      obtain ⟨hi, h⟩ := d_g h
      obtain ⟨hk5, h⟩ := d_g h
      have hk5 := d_k hk5
      refine d_aald (r := dad g (436 + 1 + (Int32.toNatClampNeg (p1)))) (ty := .array .int) 5 S hE hP (dat25 dk_436) rfl rfl hi (if_pos (dIx_lt hi)) dX0_tellCaption_23 ?_
      refine lv_iload_n S.1 S.2.1 dX0_tellCaption_24 rfl (lv_at hl 2 rfl) ?_
      refine lv_iload_n S.1 S.2.1 dX0_tellCaption_25 rfl (lv_at hl 3 rfl) ?_
      obtain ⟨hi, h⟩ := d_g h
      refine d_iast S hE hP hS hk5 hi dX0_tellCaption_26 (fun H locs hP hS => ?_)
      obtain ⟨m6, em6⟩ : ∃ z : dM, z = d1 m (436 + 1 + (Int32.toNatClampNeg (p1))) (Int32.toNatClampNeg (p2)) p3 := ⟨_, rfl⟩
      have h := d_let em6 h
      rw [← em6] at hP
      obtain rfl := Option.some.inj h
      exact dtv S hr hlk hE hP hS dX0_tellCaption_27
theorem dX0_tellClock_0 : decode cX0_tellClock 0 = .ok (.aload_n 0, 1) := by decide +kernel
theorem dX0_tellClock_1 : decode cX0_tellClock 1 = .ok (.iload_n 1, 1) := by decide +kernel
theorem dX0_tellClock_2 : decode cX0_tellClock 2 = .ok (.putfield 24, 3) := by decide +kernel
theorem dX0_tellClock_5 : decode cX0_tellClock 5 = .ok (.aload_n 0, 1) := by decide +kernel
theorem dX0_tellClock_6 : decode cX0_tellClock 6 = .ok (.iload_n 2, 1) := by decide +kernel
theorem dX0_tellClock_7 : decode cX0_tellClock 7 = .ok (.putfield 20, 3) := by decide +kernel
theorem dX0_tellClock_10 : decode cX0_tellClock 10 = .ok (.return_, 1) := by decide +kernel
def fX0_tellClock (m : dM) (p0 : Nat) (p1 : Int32) (p2 : Int32) : Option dM := dg (dkg p0 1) (dlet (d1 m p0 2 p1) (fun m1 => dlet (d1 m1 p0 3 p2) (fun m2 => some m2)))
set_option maxHeartbeats 4000000 in
set_option maxRecDepth 100000 in
theorem kX0_tellClock (l : Launch) (g : dG) {m : dM} {p0 : Nat} {p1 : Int32} {p2 : Int32} {m0 : dM} (h : fX0_tellClock m p0 p1 p2 = some m0) : dMet l g yX0_tellClock wsX0_tellClock (dRm 0 0) [.ref (dad g p0), .int p1, .int p2] m (dQV g m0) := by
  refine dof (cc := cX0_tellClock) (maxL := 3) (ret := none) _ (plainFor_of_name (by decide)) rfl (Nat.le_of_ble_eq_true rfl) ?_
  intro p e s mth below meth c S hr hlk hE H ls hP hS hl
  have S : CallFix p mth c cX0_tellClock 3 s _ wsX0_tellClock RX0 := S
  have hl : lv_has ls 3 [(0, .ref (dad g p0)), (1, .int p1), (2, .int p2)] := hl
  obtain ⟨locs, hlocs⟩ : ∃ z : List Loc, z = [] := ⟨_, rfl⟩
  rw [← hlocs] at hS ⊢
  have in0 : ∀ w ∈ wsX00, w ∈ wsX0_tellClock := by decide +kernel
  unfold fX0_tellClock at h
  obtain ⟨k0, h⟩ := d_g h
  have k0 := d_k k0
  refine lv_aload_n S.1 S.2.1 dX0_tellClock_0 rfl (lv_at hl 0 rfl) ?_
  refine lv_iload_n S.1 S.2.1 dX0_tellClock_1 rfl (lv_at hl 1 rfl) ?_
  refine dpf0_2 S in0 hE hP hS k0 (S.2.2.2.2 (.fieldLink RX0 24 "DrillField$Contest" "leastClock" "I") (List.mem_of_getElem? (i := 1) rfl)) dX0_tellClock_2 (fun H locs hP hS => ?_)
  obtain ⟨m1, em1⟩ : ∃ z : dM, z = d1 m p0 2 p1 := ⟨_, rfl⟩
  have h := d_let em1 h
  rw [← em1] at hP
  refine lv_aload_n S.1 S.2.1 dX0_tellClock_5 rfl (lv_at hl 0 rfl) ?_
  refine lv_iload_n S.1 S.2.1 dX0_tellClock_6 rfl (lv_at hl 2 rfl) ?_
  refine dpf0_3 S in0 hE hP hS k0 (S.2.2.2.2 (.fieldLink RX0 20 "DrillField$Contest" "mostClock" "I") (List.mem_of_getElem? (i := 2) rfl)) dX0_tellClock_7 (fun H locs hP hS => ?_)
  obtain ⟨m2, em2⟩ : ∃ z : dM, z = d1 m1 p0 3 p2 := ⟨_, rfl⟩
  have h := d_let em2 h
  rw [← em2] at hP
  obtain rfl := Option.some.inj h
  exact dtv S hr hlk hE hP hS dX0_tellClock_10
set_option maxRecDepth 20000 in
theorem ggX0_tellPenalty_X11_isWithin : GoodIn wsX0_tellPenalty wsX11_isWithin := goodIn_r _ [4] (by decide +kernel) (by decide +kernel)
set_option maxRecDepth 20000 in
theorem gX0_tellPenalty_X11_isWithin_n27 : GoodIn wsX0_tellPenalty (wsX11_isWithin) := ggX0_tellPenalty_X11_isWithin
theorem dX0_tellPenalty_0 : decode cX0_tellPenalty 0 = .ok (.iload_n 1, 1) := by decide +kernel
theorem dX0_tellPenalty_1 : decode cX0_tellPenalty 1 = .ok (.iconst 0, 1) := by decide +kernel
theorem dX0_tellPenalty_2 : decode cX0_tellPenalty 2 = .ok (.iconst 5, 1) := by decide +kernel
theorem dX0_tellPenalty_3 : decode cX0_tellPenalty 3 = .ok (.invokestatic 27, 3) := by decide +kernel
theorem dX0_tellPenalty_6 : decode cX0_tellPenalty 6 = .ok (.ifCond .eq 10, 3) := by decide +kernel
theorem dX0_tellPenalty_9 : decode cX0_tellPenalty 9 = .ok (.aload_n 0, 1) := by decide +kernel
theorem dX0_tellPenalty_10 : decode cX0_tellPenalty 10 = .ok (.getfield 16, 3) := by decide +kernel
theorem dX0_tellPenalty_13 : decode cX0_tellPenalty 13 = .ok (.iload_n 1, 1) := by decide +kernel
theorem dX0_tellPenalty_14 : decode cX0_tellPenalty 14 = .ok (.iload_n 2, 1) := by decide +kernel
theorem dX0_tellPenalty_15 : decode cX0_tellPenalty 15 = .ok (.iastore, 1) := by decide +kernel
theorem dX0_tellPenalty_16 : decode cX0_tellPenalty 16 = .ok (.return_, 1) := by decide +kernel
def fX0_tellPenalty (m : dM) (p0 : Nat) (p1 : Int32) (p2 : Int32) : Option dM := dg (dkg p0 1) ((fX11_isWithin m p1 0 5).bind (fun v2 => if v2 = 0 then some m else dg (dIx p1 (dL 443)) (dlet (d1 m 443 (Int32.toNatClampNeg (p1)) p2) (fun m3 => some m3))))
set_option maxHeartbeats 4000000 in
set_option maxRecDepth 100000 in
theorem kX0_tellPenalty (l : Launch) (g : dG) {m : dM} {p0 : Nat} {p1 : Int32} {p2 : Int32} {m0 : dM} (h : fX0_tellPenalty m p0 p1 p2 = some m0) : dMet l g yX0_tellPenalty wsX0_tellPenalty (dRm 1 22) [.ref (dad g p0), .int p1, .int p2] m (dQV g m0) := by
  refine dof (cc := cX0_tellPenalty) (maxL := 3) (ret := none) _ (plainFor_of_name (by decide)) rfl (Nat.le_of_ble_eq_true rfl) ?_
  intro p e s mth below meth c S hr hlk hE H ls hP hS hl
  have S : CallFix p mth c cX0_tellPenalty 3 s _ wsX0_tellPenalty RX0 := S
  have hl : lv_has ls 3 [(0, .ref (dad g p0)), (1, .int p1), (2, .int p2)] := hl
  obtain ⟨locs, hlocs⟩ : ∃ z : List Loc, z = [] := ⟨_, rfl⟩
  rw [← hlocs] at hS ⊢
  have in0 : ∀ w ∈ wsX00, w ∈ wsX0_tellPenalty := by decide +kernel
  unfold fX0_tellPenalty at h
  obtain ⟨k0, h⟩ := d_g h
  have k0 := d_k k0
  refine lv_iload_n S.1 S.2.1 dX0_tellPenalty_0 rfl (lv_at hl 1 rfl) ?_
  refine lv_iconst (v := 0) S.1 S.2.1 dX0_tellPenalty_1 (by decide) ?_
  refine lv_iconst (v := 5) S.1 S.2.1 dX0_tellPenalty_2 (by decide) ?_
  obtain ⟨v2, hc1, h⟩ := d_b h
  refine dri (va_runSN (As := [.int p1, .int 0, .int 5]) (rest := []) S (kX11_isWithin l g hc1) ⟨va_cnB 3 S.2.2.2.2 gX0_tellPenalty_X11_isWithin_n27 rfl rfl rfl (dnq_RX0_27 hE) (S.2.2.2.2 (.initialized RX11) (List.mem_of_getElem? (i := 3) rfl)) ynX11_isWithin ⟨Nat.le_of_ble_eq_true rfl, Nat.le_of_ble_eq_true rfl⟩, S.2.2.2.2 (.static yX11_isWithin) (List.mem_of_getElem? (i := 2) rfl), trivial⟩ (dpS hE hP hS) rfl rfl hl.1 rfl (lv_room (Nat.le_of_ble_eq_true rfl)) dX0_tellPenalty_3 ⟨Nat.le_of_ble_eq_true rfl, Nat.le_of_ble_eq_true rfl⟩) hS (fun H locs hP hS => ?_)
  refine lv_if_eq (tgt := 16) S.1 S.2.1 dX0_tellPenalty_6 (by decide) (fun cq => ?_) (fun cq => ?_)
  · have h := d_t cq h
    obtain rfl := Option.some.inj h
    exact dtv S hr hlk hE hP hS dX0_tellPenalty_16
  · have h := d_f cq h
    refine lv_aload_n S.1 S.2.1 dX0_tellPenalty_9 rfl (lv_at hl 0 rfl) ?_
    refine dgf0_1 S in0 hE hP k0 (S.2.2.2.2 (.fieldLink RX0 16 "DrillField$Contest" "penalties" "[I") (List.mem_of_getElem? (i := 1) rfl)) dX0_tellPenalty_10 ?_
    refine lv_iload_n S.1 S.2.1 dX0_tellPenalty_13 rfl (lv_at hl 1 rfl) ?_
    refine lv_iload_n S.1 S.2.1 dX0_tellPenalty_14 rfl (lv_at hl 2 rfl) ?_
    obtain ⟨hi, h⟩ := d_g h
    refine d_iast S hE hP hS dk_443 hi dX0_tellPenalty_15 (fun H locs hP hS => ?_)
    obtain ⟨m3, em3⟩ : ∃ z : dM, z = d1 m 443 (Int32.toNatClampNeg (p1)) p2 := ⟨_, rfl⟩
    have h := d_let em3 h
    rw [← em3] at hP
    obtain rfl := Option.some.inj h
    exact dtv S hr hlk hE hP hS dX0_tellPenalty_16
set_option maxRecDepth 20000 in
theorem ggX3_publishedOf_X11_isWithin : GoodIn wsX3_publishedOf wsX11_isWithin := goodIn_r _ [5] (by decide +kernel) (by decide +kernel)
set_option maxRecDepth 20000 in
theorem gX3_publishedOf_X11_isWithin_n63 : GoodIn wsX3_publishedOf (wsX11_isWithin) := ggX3_publishedOf_X11_isWithin
theorem dX3_publishedOf_0 : decode cX3_publishedOf 0 = .ok (.iload_n 1, 1) := by decide +kernel
theorem dX3_publishedOf_1 : decode cX3_publishedOf 1 = .ok (.iconst 0, 1) := by decide +kernel
theorem dX3_publishedOf_2 : decode cX3_publishedOf 2 = .ok (.bipush 11, 2) := by decide +kernel
theorem dX3_publishedOf_4 : decode cX3_publishedOf 4 = .ok (.invokestatic 63, 3) := by decide +kernel
theorem dX3_publishedOf_7 : decode cX3_publishedOf 7 = .ok (.ifCond .eq 21, 3) := by decide +kernel
theorem dX3_publishedOf_10 : decode cX3_publishedOf 10 = .ok (.aload_n 0, 1) := by decide +kernel
theorem dX3_publishedOf_11 : decode cX3_publishedOf 11 = .ok (.getfield 11, 3) := by decide +kernel
theorem dX3_publishedOf_14 : decode cX3_publishedOf 14 = .ok (.iload_n 1, 1) := by decide +kernel
theorem dX3_publishedOf_15 : decode cX3_publishedOf 15 = .ok (.aaload, 1) := by decide +kernel
theorem dX3_publishedOf_16 : decode cX3_publishedOf 16 = .ok (.ifnull 12, 3) := by decide +kernel
theorem dX3_publishedOf_19 : decode cX3_publishedOf 19 = .ok (.aload_n 0, 1) := by decide +kernel
theorem dX3_publishedOf_20 : decode cX3_publishedOf 20 = .ok (.getfield 11, 3) := by decide +kernel
theorem dX3_publishedOf_23 : decode cX3_publishedOf 23 = .ok (.iload_n 1, 1) := by decide +kernel
theorem dX3_publishedOf_24 : decode cX3_publishedOf 24 = .ok (.aaload, 1) := by decide +kernel
theorem dX3_publishedOf_25 : decode cX3_publishedOf 25 = .ok (.goto 7, 3) := by decide +kernel
theorem dX3_publishedOf_28 : decode cX3_publishedOf 28 = .ok (.aload_n 0, 1) := by decide +kernel
theorem dX3_publishedOf_29 : decode cX3_publishedOf 29 = .ok (.getfield 18, 3) := by decide +kernel
theorem dX3_publishedOf_32 : decode cX3_publishedOf 32 = .ok (.areturn, 1) := by decide +kernel
def fX3_publishedOf (m : dM) (p0 : Nat) (p1 : Int32) : Option Nat := dg (dkg p0 4) ((fX11_isWithin m p1 0 11).bind (fun v2 => if v2 = 0 then some 432 else dg (dIx p1 (dL 395)) (dg (dkg (395 + 1 + 3 * (Int32.toNatClampNeg (p1))) 10) (dg (dIx p1 (dL 395)) (dg (dkg (395 + 1 + 3 * (Int32.toNatClampNeg (p1))) 10) (some (395 + 1 + 3 * (Int32.toNatClampNeg (p1)))))))))
set_option maxHeartbeats 4000000 in
set_option maxRecDepth 100000 in
theorem kX3_publishedOf (l : Launch) (g : dG) {m : dM} {p0 : Nat} {p1 : Int32} {r0 : Nat} (h : fX3_publishedOf m p0 p1 = some r0) : dMet l g yX3_publishedOf wsX3_publishedOf (dRm 1 22) [.ref (dad g p0), .int p1] m (dQR g r0 m) := by
  refine dof (cc := cX3_publishedOf) (maxL := 2) (ret := (some (.object "DrillField$Spots"))) _ (plainFor_of_name (by decide)) rfl (Nat.le_of_ble_eq_true rfl) ?_
  intro p e s mth below meth c S hr hlk hE H ls hP hS hl
  have S : CallFix p mth c cX3_publishedOf 2 s _ wsX3_publishedOf RX3 := S
  have hl : lv_has ls 2 [(0, .ref (dad g p0)), (1, .int p1)] := hl
  obtain ⟨locs, hlocs⟩ : ∃ z : List Loc, z = [] := ⟨_, rfl⟩
  rw [← hlocs] at hS ⊢
  have in3 : ∀ w ∈ wsX30, w ∈ wsX3_publishedOf := by decide +kernel
  unfold fX3_publishedOf at h
  obtain ⟨k0, h⟩ := d_g h
  have k0 := d_k k0
  refine lv_iload_n S.1 S.2.1 dX3_publishedOf_0 rfl (lv_at hl 1 rfl) ?_
  refine lv_iconst (v := 0) S.1 S.2.1 dX3_publishedOf_1 (by decide) ?_
  refine lv_bipush (v := 11) S.1 S.2.1 dX3_publishedOf_2 (by decide) ?_
  obtain ⟨v2, hc1, h⟩ := d_b h
  refine dri (va_runSN (As := [.int p1, .int 0, .int 11]) (rest := []) S (kX11_isWithin l g hc1) ⟨va_cnB 3 S.2.2.2.2 gX3_publishedOf_X11_isWithin_n63 rfl rfl rfl (dnq_RX3_63 hE) (S.2.2.2.2 (.initialized RX11) (List.mem_of_getElem? (i := 4) rfl)) ynX11_isWithin ⟨Nat.le_of_ble_eq_true rfl, Nat.le_of_ble_eq_true rfl⟩, S.2.2.2.2 (.static yX11_isWithin) (List.mem_of_getElem? (i := 3) rfl), trivial⟩ (dpS hE hP hS) rfl rfl hl.1 rfl (lv_room (Nat.le_of_ble_eq_true rfl)) dX3_publishedOf_4 ⟨Nat.le_of_ble_eq_true rfl, Nat.le_of_ble_eq_true rfl⟩) hS (fun H locs hP hS => ?_)
  refine lv_if_eq (tgt := 28) S.1 S.2.1 dX3_publishedOf_7 (by decide) (fun cq => ?_) (fun cq => ?_)
  · have h := d_t cq h
    refine lv_aload_n S.1 S.2.1 dX3_publishedOf_28 rfl (lv_at hl 0 rfl) ?_
    refine dgf3_1 S in3 hE hP k0 (S.2.2.2.2 (.fieldLink RX3 18 "DrillField$Pages" "spare" "LDrillField$Spots;") (List.mem_of_getElem? (i := 2) rfl)) dX3_publishedOf_29 ?_
    obtain rfl := Option.some.inj h
    exact dtr S hr hlk hE hP hS dX3_publishedOf_32
  · have h := d_f cq h
    refine lv_aload_n S.1 S.2.1 dX3_publishedOf_10 rfl (lv_at hl 0 rfl) ?_
    refine dgf3_0 S in3 hE hP k0 (S.2.2.2.2 (.fieldLink RX3 11 "DrillField$Pages" "published" "[LDrillField$Spots;") (List.mem_of_getElem? (i := 1) rfl)) dX3_publishedOf_11 ?_
    refine lv_iload_n S.1 S.2.1 dX3_publishedOf_14 rfl (lv_at hl 1 rfl) ?_
    obtain ⟨hi, h⟩ := d_g h
    obtain ⟨hk3, h⟩ := d_g h
    have hk3 := d_k hk3
    refine d_aald (r := dad g (395 + 1 + 3 * (Int32.toNatClampNeg (p1)))) (ty := .object "DrillField$Spots") 4 S hE hP (dat24 dk_395) rfl rfl hi (if_pos (dIx_lt hi)) dX3_publishedOf_15 ?_
    refine lv_ifnull S.1 S.2.1 dX3_publishedOf_16 ?_
    refine lv_aload_n S.1 S.2.1 dX3_publishedOf_19 rfl (lv_at hl 0 rfl) ?_
    refine dgf3_0 S in3 hE hP k0 (S.2.2.2.2 (.fieldLink RX3 11 "DrillField$Pages" "published" "[LDrillField$Spots;") (List.mem_of_getElem? (i := 1) rfl)) dX3_publishedOf_20 ?_
    refine lv_iload_n S.1 S.2.1 dX3_publishedOf_23 rfl (lv_at hl 1 rfl) ?_
    obtain ⟨hi, h⟩ := d_g h
    obtain ⟨hk4, h⟩ := d_g h
    have hk4 := d_k hk4
    refine d_aald (r := dad g (395 + 1 + 3 * (Int32.toNatClampNeg (p1)))) (ty := .object "DrillField$Spots") 4 S hE hP (dat24 dk_395) rfl rfl hi (if_pos (dIx_lt hi)) dX3_publishedOf_24 ?_
    refine lv_goto (tgt := 32) S.1 S.2.1 dX3_publishedOf_25 (by decide) ?_
    obtain rfl := Option.some.inj h
    exact dtr S hr hlk hE hP hS dX3_publishedOf_32
set_option maxRecDepth 20000 in
theorem ggX3_countUnlike_X8_number : GoodIn wsX3_countUnlike wsX8_number := goodIn_r _ [13, 14, 51, 52, 53, 54] (by decide +kernel) (by decide +kernel)
set_option maxRecDepth 20000 in
theorem gX3_countUnlike_X8_number : GoodIn wsX3_countUnlike (wsV RX3 26 RX8 yX8_number wsX8_number) := goodIn_app (goodIn_of _ (by decide +kernel)) ggX3_countUnlike_X8_number
set_option maxRecDepth 20000 in
theorem ggX3_countUnlike_X3_publishedOf : GoodIn wsX3_countUnlike wsX3_publishedOf := goodIn_r _ [19, 20, 21, 22, 23, 24, 48, 49, 50] (by decide +kernel) (by decide +kernel)
set_option maxRecDepth 20000 in
theorem gX3_countUnlike_X3_publishedOf : GoodIn wsX3_countUnlike (wsV RX3 41 RX3 yX3_publishedOf wsX3_publishedOf) := goodIn_app (goodIn_of _ (by decide +kernel)) ggX3_countUnlike_X3_publishedOf
set_option maxRecDepth 20000 in
theorem ggX3_countUnlike_X8_numbered : GoodIn wsX3_countUnlike wsX8_numbered := goodIn_r _ [28, 29, 30, 22, 23, 24, 51, 52, 53, 54] (by decide +kernel) (by decide +kernel)
set_option maxRecDepth 20000 in
theorem gX3_countUnlike_X8_numbered : GoodIn wsX3_countUnlike (wsV RX3 45 RX8 yX8_numbered wsX8_numbered) := goodIn_app (goodIn_of _ (by decide +kernel)) ggX3_countUnlike_X8_numbered
set_option maxRecDepth 20000 in
theorem ggX3_countUnlike_X5_ends : GoodIn wsX3_countUnlike wsX5_ends := goodIn_r _ [35, 36, 55, 56, 57, 58, 59, 60, 61] (by decide +kernel) (by decide +kernel)
set_option maxRecDepth 20000 in
theorem gX3_countUnlike_X5_ends : GoodIn wsX3_countUnlike (wsV RX3 49 RX5 yX5_ends wsX5_ends) := goodIn_app (goodIn_of _ (by decide +kernel)) ggX3_countUnlike_X5_ends
set_option maxRecDepth 20000 in
theorem ggX3_countUnlike_X9_squareTo : GoodIn wsX3_countUnlike wsX9_squareTo := goodIn_r _ [41, 42, 43, 44, 23, 45, 46, 47, 62, 63] (by decide +kernel) (by decide +kernel)
set_option maxRecDepth 20000 in
theorem gX3_countUnlike_X9_squareTo : GoodIn wsX3_countUnlike (wsV RX3 55 RX9 yX9_squareTo wsX9_squareTo) := goodIn_app (goodIn_of _ (by decide +kernel)) ggX3_countUnlike_X9_squareTo
theorem dX3_countUnlike_0 : decode cX3_countUnlike 0 = .ok (.aload_n 0, 1) := by decide +kernel
theorem dX3_countUnlike_1 : decode cX3_countUnlike 1 = .ok (.getfield 22, 3) := by decide +kernel
theorem dX3_countUnlike_4 : decode cX3_countUnlike 4 = .ok (.aload_n 1, 1) := by decide +kernel
theorem dX3_countUnlike_5 : decode cX3_countUnlike 5 = .ok (.invokevirtual 26, 3) := by decide +kernel
theorem dX3_countUnlike_8 : decode cX3_countUnlike 8 = .ok (.invokestatic 32, 3) := by decide +kernel
theorem dX3_countUnlike_11 : decode cX3_countUnlike 11 = .ok (.istore_n 3, 1) := by decide +kernel
theorem dX3_countUnlike_12 : decode cX3_countUnlike 12 = .ok (.aload_n 0, 1) := by decide +kernel
theorem dX3_countUnlike_13 : decode cX3_countUnlike 13 = .ok (.getfield 22, 3) := by decide +kernel
theorem dX3_countUnlike_16 : decode cX3_countUnlike 16 = .ok (.aload_n 1, 1) := by decide +kernel
theorem dX3_countUnlike_17 : decode cX3_countUnlike 17 = .ok (.invokevirtual 26, 3) := by decide +kernel
theorem dX3_countUnlike_20 : decode cX3_countUnlike 20 = .ok (.invokestatic 38, 3) := by decide +kernel
theorem dX3_countUnlike_23 : decode cX3_countUnlike 23 = .ok (.iload_n 3, 1) := by decide +kernel
theorem dX3_countUnlike_24 : decode cX3_countUnlike 24 = .ok (.isub, 1) := by decide +kernel
theorem dX3_countUnlike_25 : decode cX3_countUnlike 25 = .ok (.iload_n 2, 1) := by decide +kernel
theorem dX3_countUnlike_26 : decode cX3_countUnlike 26 = .ok (.imul, 1) := by decide +kernel
theorem dX3_countUnlike_27 : decode cX3_countUnlike 27 = .ok (.istore 4, 2) := by decide +kernel
theorem dX3_countUnlike_29 : decode cX3_countUnlike 29 = .ok (.iconst 0, 1) := by decide +kernel
theorem dX3_countUnlike_30 : decode cX3_countUnlike 30 = .ok (.istore 5, 2) := by decide +kernel
theorem dX3_countUnlike_32 : decode cX3_countUnlike 32 = .ok (.iload 5, 2) := by decide +kernel
theorem dX3_countUnlike_34 : decode cX3_countUnlike 34 = .ok (.iload_n 3, 1) := by decide +kernel
theorem dX3_countUnlike_35 : decode cX3_countUnlike 35 = .ok (.if_icmp .ge 52, 3) := by decide +kernel
theorem dX3_countUnlike_38 : decode cX3_countUnlike 38 = .ok (.iconst 0, 1) := by decide +kernel
theorem dX3_countUnlike_39 : decode cX3_countUnlike 39 = .ok (.istore 6, 2) := by decide +kernel
theorem dX3_countUnlike_41 : decode cX3_countUnlike 41 = .ok (.iload 6, 2) := by decide +kernel
theorem dX3_countUnlike_43 : decode cX3_countUnlike 43 = .ok (.iload_n 2, 1) := by decide +kernel
theorem dX3_countUnlike_44 : decode cX3_countUnlike 44 = .ok (.if_icmp .ge 37, 3) := by decide +kernel
theorem dX3_countUnlike_47 : decode cX3_countUnlike 47 = .ok (.aload_n 0, 1) := by decide +kernel
theorem dX3_countUnlike_48 : decode cX3_countUnlike 48 = .ok (.iload 5, 2) := by decide +kernel
theorem dX3_countUnlike_50 : decode cX3_countUnlike 50 = .ok (.invokevirtual 41, 3) := by decide +kernel
theorem dX3_countUnlike_53 : decode cX3_countUnlike 53 = .ok (.iload 6, 2) := by decide +kernel
theorem dX3_countUnlike_55 : decode cX3_countUnlike 55 = .ok (.aload_n 1, 1) := by decide +kernel
theorem dX3_countUnlike_56 : decode cX3_countUnlike 56 = .ok (.iload 5, 2) := by decide +kernel
theorem dX3_countUnlike_58 : decode cX3_countUnlike 58 = .ok (.invokevirtual 45, 3) := by decide +kernel
theorem dX3_countUnlike_61 : decode cX3_countUnlike 61 = .ok (.invokevirtual 49, 3) := by decide +kernel
theorem dX3_countUnlike_64 : decode cX3_countUnlike 64 = .ok (.iload 6, 2) := by decide +kernel
theorem dX3_countUnlike_66 : decode cX3_countUnlike 66 = .ok (.invokevirtual 55, 3) := by decide +kernel
theorem dX3_countUnlike_69 : decode cX3_countUnlike 69 = .ok (.ifCond .eq 6, 3) := by decide +kernel
theorem dX3_countUnlike_72 : decode cX3_countUnlike 72 = .ok (.iinc 4 1, 3) := by decide +kernel
theorem dX3_countUnlike_75 : decode cX3_countUnlike 75 = .ok (.iinc 6 1, 3) := by decide +kernel
theorem dX3_countUnlike_78 : decode cX3_countUnlike 78 = .ok (.goto (-37), 3) := by decide +kernel
theorem dX3_countUnlike_81 : decode cX3_countUnlike 81 = .ok (.iinc 5 1, 3) := by decide +kernel
theorem dX3_countUnlike_84 : decode cX3_countUnlike 84 = .ok (.goto (-52), 3) := by decide +kernel
theorem dX3_countUnlike_87 : decode cX3_countUnlike 87 = .ok (.iload 4, 2) := by decide +kernel
theorem dX3_countUnlike_89 : decode cX3_countUnlike 89 = .ok (.ireturn, 1) := by decide +kernel
def fX3_countUnlike_l41 (m : dM) (p0 : Nat) (p1 : Nat) (p2 : Int32) (v8 : Int32) (v44 : Int32) (v45 : Int32) : Option ((Int32 × Int32) ⊕ Int32) := if p2 ≤ v44 then some (.inr v45) else (fX3_publishedOf m p0 v8).bind (fun v61 => dg (dkg v61 10) ((fX8_numbered m p1 v8).bind (fun v64 => dg (dkg v64 6) ((fX5_ends m v64).bind (fun v67 => dg (dkg v67 10) ((fX9_squareTo m v61 v44 v67 v44).bind (fun v70 => if v70 = 0 then dlet (v44 + 1 : Int32) (fun v71 => some (.inl (v71, v45))) else dlet (v45 + 1 : Int32) (fun v72 => dlet (v44 + 1 : Int32) (fun v73 => some (.inl (v73, v72)))))))))))
def fX3_countUnlike_l32 (m : dM) (p0 : Nat) (p1 : Nat) (p2 : Int32) (v3 : Int32) (v8 : Int32) (v9 : Int32) : Option ((Int32 × Int32) ⊕ Int32) := if v3 ≤ v8 then some (.inr v9) else (dlp (fun q => dP2 q (fun v44 v45 => fX3_countUnlike_l41 m p0 p1 p2 v8 v44 v45)) dFl (0, v9)).bind (fun q => dP1 q (fun v74 => dlet (v8 + 1 : Int32) (fun v75 => some (.inl (v75, v74)))))
def fX3_countUnlike (m : dM) (p0 : Nat) (p1 : Nat) (p2 : Int32) : Option Int32 := dg (dkg p0 4) (dg (dkg p1 9) ((fX8_number m p1).bind (fun v2 => dlet (if v2 < (m.1 p0 2) then v2 else (m.1 p0 2) : Int32) (fun v3 => (fX8_number m p1).bind (fun v5 => dlet (((if (m.1 p0 2) < v5 then v5 else (m.1 p0 2)) - v3) * p2 : Int32) (fun v6 => (dlp (fun q => dP2 q (fun v8 v9 => fX3_countUnlike_l32 m p0 p1 p2 v3 v8 v9)) dFl (0, v6)).bind (fun q => dP1 q (fun v76 => some v76))))))))
set_option maxHeartbeats 4000000 in
set_option maxRecDepth 100000 in
theorem kX3_countUnlike (l : Launch) (g : dG) {m : dM} {p0 : Nat} {p1 : Nat} {p2 : Int32} {r0 : Int32} (h : fX3_countUnlike m p0 p1 p2 = some r0) : dMet l g yX3_countUnlike wsX3_countUnlike (dRm 2 44) [.ref (dad g p0), .ref (dad g p1), .int p2] m (dQI g r0 m) := by
  refine dof (cc := cX3_countUnlike) (maxL := 7) (ret := (some .int)) _ (plainFor_of_name (by decide)) rfl (Nat.le_of_ble_eq_true rfl) ?_
  intro p e s mth below meth c S hr hlk hE H ls hP hS hl
  have S : CallFix p mth c cX3_countUnlike 7 s _ wsX3_countUnlike RX3 := S
  have hl : lv_has ls 7 [(0, .ref (dad g p0)), (1, .ref (dad g p1)), (2, .int p2)] := hl
  obtain ⟨locs, hlocs⟩ : ∃ z : List Loc, z = [] := ⟨_, rfl⟩
  rw [← hlocs] at hS ⊢
  have in3 : ∀ w ∈ wsX30, w ∈ wsX3_countUnlike := by decide +kernel
  unfold fX3_countUnlike at h
  obtain ⟨k0, h⟩ := d_g h
  have k0 := d_k k0
  obtain ⟨k1, h⟩ := d_g h
  have k1 := d_k k1
  refine lv_aload_n S.1 S.2.1 dX3_countUnlike_0 rfl (lv_at hl 0 rfl) ?_
  refine dgf3_2 S in3 hE hP k0 (S.2.2.2.2 (.fieldLink RX3 22 "DrillField$Pages" "parts" "I") (List.mem_of_getElem? (i := 1) rfl)) dX3_countUnlike_1 ?_
  refine lv_aload_n S.1 S.2.1 dX3_countUnlike_4 rfl (lv_at hl 1 rfl) ?_
  obtain ⟨v2, hc1, h⟩ := d_b h
  refine dri (va_runV (As := []) (rest := [.int (m.1 p0 2)]) S (kX8_number l g hc1) (cwV 0 S.2.2.2.2 gX3_countUnlike_X8_number rfl rfl rfl ynX8_number ⟨Nat.le_of_ble_eq_true rfl, Nat.le_of_ble_eq_true rfl⟩) (dpV hE hP hS (ci := 8) rfl (dat9 k1)) rfl rfl hl.1 rfl (lv_room (Nat.le_of_ble_eq_true rfl)) dX3_countUnlike_5 ⟨Nat.le_of_ble_eq_true rfl, Nat.le_of_ble_eq_true rfl⟩) hS (fun H locs hP hS => ?_)
  refine va_mmin S.1 S.2.1 (S.2.2.1.trans hl.1.symm) S.2.2.2.1 (S.2.2.2.2 (.methodLink RX3 32 Lib.Math.min.name) (List.mem_of_getElem? (i := 2) rfl)) (S.2.2.2.2 (.static Lib.Math.min.name) (List.mem_of_getElem? (i := 3) rfl)) (S.2.2.2.2 (.initialized "java/lang/Math") (List.mem_of_getElem? (i := 4) rfl)) (S.2.2.2.2 (.code Lib.Math.min.name Lib.Math.min.code 2 (some .int)) (List.mem_of_getElem? (i := 5) rfl)) (Nat.le_of_ble_eq_true rfl) (Nat.le_of_ble_eq_true rfl) (Nat.le_of_ble_eq_true rfl) (Nat.le_of_ble_eq_true rfl) dX3_countUnlike_8 ?_
  refine lv_topi (fun v3 ev3 => ?_)
  have h := d_let ev3 h
  refine lv_istore_n (lv' := [(3, .int v3), (0, .ref (dad g p0)), (1, .ref (dad g p1)), (2, .int p2)]) S.1 S.2.1 dX3_countUnlike_11 rfl hl (by decide) rfl (fun ls hl => ?_)
  refine lv_aload_n S.1 S.2.1 dX3_countUnlike_12 rfl (lv_at hl 1 rfl) ?_
  refine dgf3_2 S in3 hE hP k0 (S.2.2.2.2 (.fieldLink RX3 22 "DrillField$Pages" "parts" "I") (List.mem_of_getElem? (i := 1) rfl)) dX3_countUnlike_13 ?_
  refine lv_aload_n S.1 S.2.1 dX3_countUnlike_16 rfl (lv_at hl 2 rfl) ?_
  obtain ⟨v5, hc4, h⟩ := d_b h
  refine dri (va_runV (As := []) (rest := [.int (m.1 p0 2)]) S (kX8_number l g hc4) (cwV 0 S.2.2.2.2 gX3_countUnlike_X8_number rfl rfl rfl ynX8_number ⟨Nat.le_of_ble_eq_true rfl, Nat.le_of_ble_eq_true rfl⟩) (dpV hE hP hS (ci := 8) rfl (dat9 k1)) rfl rfl hl.1 rfl (lv_room (Nat.le_of_ble_eq_true rfl)) dX3_countUnlike_17 ⟨Nat.le_of_ble_eq_true rfl, Nat.le_of_ble_eq_true rfl⟩) hS (fun H locs hP hS => ?_)
  refine va_mmax S.1 S.2.1 (S.2.2.1.trans hl.1.symm) S.2.2.2.1 (S.2.2.2.2 (.methodLink RX3 38 Lib.Math.max.name) (List.mem_of_getElem? (i := 6) rfl)) (S.2.2.2.2 (.static Lib.Math.max.name) (List.mem_of_getElem? (i := 7) rfl)) (S.2.2.2.2 (.initialized "java/lang/Math") (List.mem_of_getElem? (i := 4) rfl)) (S.2.2.2.2 (.code Lib.Math.max.name Lib.Math.max.code 2 (some .int)) (List.mem_of_getElem? (i := 8) rfl)) (Nat.le_of_ble_eq_true rfl) (Nat.le_of_ble_eq_true rfl) (Nat.le_of_ble_eq_true rfl) (Nat.le_of_ble_eq_true rfl) dX3_countUnlike_20 ?_
  refine lv_iload_n S.1 S.2.1 dX3_countUnlike_23 rfl (lv_at hl 0 rfl) ?_
  refine lv_isub S.1 S.2.1 dX3_countUnlike_24 ?_
  refine lv_iload_n S.1 S.2.1 dX3_countUnlike_25 rfl (lv_at hl 3 rfl) ?_
  refine lv_imul S.1 S.2.1 dX3_countUnlike_26 ?_
  refine lv_topi (fun v6 ev6 => ?_)
  have h := d_let ev6 h
  refine lv_istore (lv' := [(4, .int v6), (3, .int v3), (0, .ref (dad g p0)), (1, .ref (dad g p1)), (2, .int p2)]) S.1 S.2.1 dX3_countUnlike_27 hl (by decide) rfl (fun ls hl => ?_)
  refine lv_iconst (v := 0) S.1 S.2.1 dX3_countUnlike_29 (by decide) ?_
  refine lv_istore (lv' := [(5, .int 0), (4, .int v6), (3, .int v3), (0, .ref (dad g p0)), (1, .ref (dad g p1)), (2, .int p2)]) S.1 S.2.1 dX3_countUnlike_30 hl (by decide) rfl (fun ls hl => ?_)
  obtain ⟨qL7, hqL7, h⟩ := d_b h
  refine d_lp (Hd := fun q => match q with | (v8, v9) => ∀ (H : Heap) (locs : List Loc) (ls : Array Slot), va_P g.1 vwCl (dws g m) H → va_S (dA g) s.heap H locs → lv_has ls 7 [(5, .int v8), (4, .int v9), (3, .int v3), (0, .ref (dad g p0)), (1, .ref (dad g p1)), (2, .int p2)] → W p l e (headSpec wsX3_countUnlike (dRm 2 44)).room s mth (([.ref (dad g p0), .ref (dad g p1), .int p2] : List Value).toArray) below meth c H locs 0 0 (MQ below (dQI g r0 m) (([.ref (dad g p0), .ref (dad g p1), .int p2] : List Value).toArray) s 0 0 (dA g)) (F0 mth 32 ls [])) (K := fun q => (fun (v76 : _) => ∀ (H : Heap) (locs : List Loc) (ls : Array Slot), va_P g.1 vwCl (dws g m) H → va_S (dA g) s.heap H locs → lv_has ls 7 [(4, .int v76)] → W p l e (headSpec wsX3_countUnlike (dRm 2 44)).room s mth (([.ref (dad g p0), .ref (dad g p1), .int p2] : List Value).toArray) below meth c H locs 0 0 (MQ below (dQI g r0 m) (([.ref (dad g p0), .ref (dad g p1), .int p2] : List Value).toArray) s 0 0 (dA g)) (F0 mth 87 ls [])) q) ?_ dFl _ qL7 hqL7 ?_ H locs ls hP hS (lv_sub hl [0, 1, 2, 3, 4, 5] rfl)
  · intro q o h hCL7 hEL7
    obtain ⟨v8, v9⟩ := q
    have h : fX3_countUnlike_l32 m p0 p1 p2 v3 v8 v9 = some o := h
    intro H locs ls hP hS hl
    have hP : va_P g.1 vwCl (dws g m) H := hP
    have hl : lv_has ls 7 [(5, .int v8), (4, .int v9), (3, .int v3), (0, .ref (dad g p0)), (1, .ref (dad g p1)), (2, .int p2)] := hl
    unfold fX3_countUnlike_l32 at h
    refine lv_iload S.1 S.2.1 dX3_countUnlike_32 (lv_at hl 0 rfl) ?_
    refine lv_iload_n S.1 S.2.1 dX3_countUnlike_34 rfl (lv_at hl 2 rfl) ?_
    refine lv_icmp_ge (tgt := 87) S.1 S.2.1 dX3_countUnlike_35 (by decide) (fun cq => ?_) (fun cq => ?_)
    · have h := d_t cq h
      obtain rfl := Option.some.inj h
      exact hEL7 _ rfl H locs ls hP hS (lv_sub hl [1] rfl)
    · have h := d_f cq h
      refine lv_iconst (v := 0) S.1 S.2.1 dX3_countUnlike_38 (by decide) ?_
      refine lv_istore (lv' := [(6, .int 0), (5, .int v8), (4, .int v9), (3, .int v3), (0, .ref (dad g p0)), (1, .ref (dad g p1)), (2, .int p2)]) S.1 S.2.1 dX3_countUnlike_39 hl (by decide) rfl (fun ls hl => ?_)
      obtain ⟨qL43, hqL43, h⟩ := d_b h
      refine d_lp (Hd := fun q => match q with | (v44, v45) => ∀ (H : Heap) (locs : List Loc) (ls : Array Slot), va_P g.1 vwCl (dws g m) H → va_S (dA g) s.heap H locs → lv_has ls 7 [(6, .int v44), (5, .int v8), (4, .int v45), (3, .int v3), (0, .ref (dad g p0)), (1, .ref (dad g p1)), (2, .int p2)] → W p l e (headSpec wsX3_countUnlike (dRm 2 44)).room s mth (([.ref (dad g p0), .ref (dad g p1), .int p2] : List Value).toArray) below meth c H locs 0 0 (MQ below (dQI g r0 m) (([.ref (dad g p0), .ref (dad g p1), .int p2] : List Value).toArray) s 0 0 (dA g)) (F0 mth 41 ls [])) (K := fun q => (fun (v74 : _) => ∀ (H : Heap) (locs : List Loc) (ls : Array Slot), va_P g.1 vwCl (dws g m) H → va_S (dA g) s.heap H locs → lv_has ls 7 [(0, .ref (dad g p0)), (1, .ref (dad g p1)), (2, .int p2), (3, .int v3), (4, .int v74), (5, .int v8)] → W p l e (headSpec wsX3_countUnlike (dRm 2 44)).room s mth (([.ref (dad g p0), .ref (dad g p1), .int p2] : List Value).toArray) below meth c H locs 0 0 (MQ below (dQI g r0 m) (([.ref (dad g p0), .ref (dad g p1), .int p2] : List Value).toArray) s 0 0 (dA g)) (F0 mth 81 ls [])) q) ?_ dFl _ qL43 hqL43 ?_ H locs ls hP hS (lv_sub hl [0, 1, 2, 3, 4, 5, 6] rfl)
      · intro q o h hCL43 hEL43
        obtain ⟨v44, v45⟩ := q
        have h : fX3_countUnlike_l41 m p0 p1 p2 v8 v44 v45 = some o := h
        intro H locs ls hP hS hl
        have hP : va_P g.1 vwCl (dws g m) H := hP
        have hl : lv_has ls 7 [(6, .int v44), (5, .int v8), (4, .int v45), (3, .int v3), (0, .ref (dad g p0)), (1, .ref (dad g p1)), (2, .int p2)] := hl
        unfold fX3_countUnlike_l41 at h
        refine lv_iload S.1 S.2.1 dX3_countUnlike_41 (lv_at hl 0 rfl) ?_
        refine lv_iload_n S.1 S.2.1 dX3_countUnlike_43 rfl (lv_at hl 6 rfl) ?_
        refine lv_icmp_ge (tgt := 81) S.1 S.2.1 dX3_countUnlike_44 (by decide) (fun cq => ?_) (fun cq => ?_)
        · have h := d_t cq h
          obtain rfl := Option.some.inj h
          exact hEL43 _ rfl H locs ls hP hS (lv_sub hl [4, 5, 6, 3, 2, 1] rfl)
        · have h := d_f cq h
          refine lv_aload_n S.1 S.2.1 dX3_countUnlike_47 rfl (lv_at hl 4 rfl) ?_
          refine lv_iload S.1 S.2.1 dX3_countUnlike_48 (lv_at hl 1 rfl) ?_
          obtain ⟨v61, hc60, h⟩ := d_b h
          obtain ⟨hk62, h⟩ := d_g h
          have hk62 := d_k hk62
          refine drr (va_runV (As := [.int v8]) (rest := []) S (kX3_publishedOf l g hc60) (cwV 1 S.2.2.2.2 gX3_countUnlike_X3_publishedOf rfl rfl rfl ynX3_publishedOf ⟨Nat.le_of_ble_eq_true rfl, Nat.le_of_ble_eq_true rfl⟩) (dpV hE hP hS (ci := 3) rfl (dat4 k0)) rfl rfl hl.1 rfl (lv_room (Nat.le_of_ble_eq_true rfl)) dX3_countUnlike_50 ⟨Nat.le_of_ble_eq_true rfl, Nat.le_of_ble_eq_true rfl⟩) hS (fun H locs hP hS => ?_)
          refine lv_iload S.1 S.2.1 dX3_countUnlike_53 (lv_at hl 0 rfl) ?_
          refine lv_aload_n S.1 S.2.1 dX3_countUnlike_55 rfl (lv_at hl 5 rfl) ?_
          refine lv_iload S.1 S.2.1 dX3_countUnlike_56 (lv_at hl 1 rfl) ?_
          obtain ⟨v64, hc63, h⟩ := d_b h
          obtain ⟨hk65, h⟩ := d_g h
          have hk65 := d_k hk65
          refine drr (va_runV (As := [.int v8]) (rest := [.int v44, .ref (dad g v61)]) S (kX8_numbered l g hc63) (cwV 1 S.2.2.2.2 gX3_countUnlike_X8_numbered rfl rfl rfl ynX8_numbered ⟨Nat.le_of_ble_eq_true rfl, Nat.le_of_ble_eq_true rfl⟩) (dpV hE hP hS (ci := 8) rfl (dat9 k1)) rfl rfl hl.1 rfl (lv_room (Nat.le_of_ble_eq_true rfl)) dX3_countUnlike_58 ⟨Nat.le_of_ble_eq_true rfl, Nat.le_of_ble_eq_true rfl⟩) hS (fun H locs hP hS => ?_)
          obtain ⟨v67, hc66, h⟩ := d_b h
          obtain ⟨hk68, h⟩ := d_g h
          have hk68 := d_k hk68
          refine drr (va_runV (As := []) (rest := [.int v44, .ref (dad g v61)]) S (kX5_ends l g hc66) (cwV 0 S.2.2.2.2 gX3_countUnlike_X5_ends rfl rfl rfl ynX5_ends ⟨Nat.le_of_ble_eq_true rfl, Nat.le_of_ble_eq_true rfl⟩) (dpV hE hP hS (ci := 5) rfl (dat6 hk65)) rfl rfl hl.1 rfl (lv_room (Nat.le_of_ble_eq_true rfl)) dX3_countUnlike_61 ⟨Nat.le_of_ble_eq_true rfl, Nat.le_of_ble_eq_true rfl⟩) hS (fun H locs hP hS => ?_)
          refine lv_iload S.1 S.2.1 dX3_countUnlike_64 (lv_at hl 0 rfl) ?_
          obtain ⟨v70, hc69, h⟩ := d_b h
          refine dri (va_runV (As := [.int v44, .ref (dad g v67), .int v44]) (rest := []) S (kX9_squareTo l g hc69) (cwV 3 S.2.2.2.2 gX3_countUnlike_X9_squareTo rfl rfl rfl ynX9_squareTo ⟨Nat.le_of_ble_eq_true rfl, Nat.le_of_ble_eq_true rfl⟩) (dpV hE hP hS (ci := 9) rfl (dat10 hk62)) rfl rfl hl.1 rfl (lv_room (Nat.le_of_ble_eq_true rfl)) dX3_countUnlike_66 ⟨Nat.le_of_ble_eq_true rfl, Nat.le_of_ble_eq_true rfl⟩) hS (fun H locs hP hS => ?_)
          refine lv_if_eq (tgt := 75) S.1 S.2.1 dX3_countUnlike_69 (by decide) (fun cq => ?_) (fun cq => ?_)
          · have h := d_t cq h
            obtain ⟨v71, ev71⟩ : ∃ z : Int32, z = v44 + 1 := ⟨_, rfl⟩
            have h := d_let ev71 h
            refine lv_iinc (v := v71) (lv' := [(6, .int v71), (5, .int v8), (4, .int v45), (3, .int v3), (0, .ref (dad g p0)), (1, .ref (dad g p1)), (2, .int p2)]) S.1 S.2.1 dX3_countUnlike_75 hl (k := 0) rfl (by rw [ev71]; rfl) (by decide) rfl (fun ls hl => ?_)
            refine lv_goto (tgt := 41) S.1 S.2.1 dX3_countUnlike_78 (by decide) ?_
            obtain rfl := Option.some.inj h
            exact hCL43 _ rfl H locs ls hP hS (lv_sub hl [0, 1, 2, 3, 4, 5, 6] rfl)
          · have h := d_f cq h
            obtain ⟨v72, ev72⟩ : ∃ z : Int32, z = v45 + 1 := ⟨_, rfl⟩
            have h := d_let ev72 h
            refine lv_iinc (v := v72) (lv' := [(4, .int v72), (6, .int v44), (5, .int v8), (3, .int v3), (0, .ref (dad g p0)), (1, .ref (dad g p1)), (2, .int p2)]) S.1 S.2.1 dX3_countUnlike_72 hl (k := 2) rfl (by rw [ev72]; rfl) (by decide) rfl (fun ls hl => ?_)
            obtain ⟨v73, ev73⟩ : ∃ z : Int32, z = v44 + 1 := ⟨_, rfl⟩
            have h := d_let ev73 h
            refine lv_iinc (v := v73) (lv' := [(6, .int v73), (4, .int v72), (5, .int v8), (3, .int v3), (0, .ref (dad g p0)), (1, .ref (dad g p1)), (2, .int p2)]) S.1 S.2.1 dX3_countUnlike_75 hl (k := 1) rfl (by rw [ev73]; rfl) (by decide) rfl (fun ls hl => ?_)
            refine lv_goto (tgt := 41) S.1 S.2.1 dX3_countUnlike_78 (by decide) ?_
            obtain rfl := Option.some.inj h
            exact hCL43 _ rfl H locs ls hP hS (lv_sub hl [0, 2, 1, 3, 4, 5, 6] rfl)
      · obtain ⟨v74, rfl⟩ : ∃ z, z = qL43 := ⟨_, rfl⟩
        have h := d_p1 h
        intro H locs ls hP hS hl
        have hP : va_P g.1 vwCl (dws g m) H := hP
        have hl : lv_has ls 7 [(0, .ref (dad g p0)), (1, .ref (dad g p1)), (2, .int p2), (3, .int v3), (4, .int v74), (5, .int v8)] := hl
        obtain ⟨v75, ev75⟩ : ∃ z : Int32, z = v8 + 1 := ⟨_, rfl⟩
        have h := d_let ev75 h
        refine lv_iinc (v := v75) (lv' := [(5, .int v75), (0, .ref (dad g p0)), (1, .ref (dad g p1)), (2, .int p2), (3, .int v3), (4, .int v74)]) S.1 S.2.1 dX3_countUnlike_81 hl (k := 5) rfl (by rw [ev75]; rfl) (by decide) rfl (fun ls hl => ?_)
        refine lv_goto (tgt := 32) S.1 S.2.1 dX3_countUnlike_84 (by decide) ?_
        obtain rfl := Option.some.inj h
        exact hCL7 _ rfl H locs ls hP hS (lv_sub hl [0, 5, 4, 1, 2, 3] rfl)
  · obtain ⟨v76, rfl⟩ : ∃ z, z = qL7 := ⟨_, rfl⟩
    have h := d_p1 h
    intro H locs ls hP hS hl
    have hP : va_P g.1 vwCl (dws g m) H := hP
    have hl : lv_has ls 7 [(4, .int v76)] := hl
    refine lv_iload S.1 S.2.1 dX3_countUnlike_87 (lv_at hl 0 rfl) ?_
    obtain rfl := Option.some.inj h
    exact dti S hr hlk hE hP hS rfl dX3_countUnlike_89
set_option maxRecDepth 20000 in
theorem ggX3_keep_X8_number : GoodIn wsX3_keep wsX8_number := goodIn_r _ [6, 7, 54, 55, 56, 57] (by decide +kernel) (by decide +kernel)
set_option maxRecDepth 20000 in
theorem gX3_keep_X8_number : GoodIn wsX3_keep (wsV RX3 26 RX8 yX8_number wsX8_number) := goodIn_app (goodIn_of _ (by decide +kernel)) ggX3_keep_X8_number
set_option maxRecDepth 20000 in
theorem ggX3_keep_X3_publishedOf : GoodIn wsX3_keep wsX3_publishedOf := goodIn_r _ [12, 13, 14, 15, 16, 17, 51, 52, 53] (by decide +kernel) (by decide +kernel)
set_option maxRecDepth 20000 in
theorem gX3_keep_X3_publishedOf : GoodIn wsX3_keep (wsV RX3 41 RX3 yX3_publishedOf wsX3_publishedOf) := goodIn_app (goodIn_of _ (by decide +kernel)) ggX3_keep_X3_publishedOf
set_option maxRecDepth 20000 in
theorem ggX3_keep_X8_numbered : GoodIn wsX3_keep wsX8_numbered := goodIn_r _ [21, 22, 23, 15, 16, 17, 54, 55, 56, 57] (by decide +kernel) (by decide +kernel)
set_option maxRecDepth 20000 in
theorem gX3_keep_X8_numbered : GoodIn wsX3_keep (wsV RX3 45 RX8 yX8_numbered wsX8_numbered) := goodIn_app (goodIn_of _ (by decide +kernel)) ggX3_keep_X8_numbered
set_option maxRecDepth 20000 in
theorem ggX3_keep_X5_ends : GoodIn wsX3_keep wsX5_ends := goodIn_r _ [28, 29, 58, 59, 60, 61, 62, 63, 64] (by decide +kernel) (by decide +kernel)
set_option maxRecDepth 20000 in
theorem gX3_keep_X5_ends : GoodIn wsX3_keep (wsV RX3 49 RX5 yX5_ends wsX5_ends) := goodIn_app (goodIn_of _ (by decide +kernel)) ggX3_keep_X5_ends
set_option maxRecDepth 20000 in
theorem ggX3_keep_X9_copy : GoodIn wsX3_keep wsX9_copy := goodIn_r _ [34, 35, 36, 37, 33, 38, 39, 40, 16, 41, 42, 43, 44, 45, 46, 47, 48, 49, 50, 65, 66] (by decide +kernel) (by decide +kernel)
set_option maxRecDepth 20000 in
theorem gX3_keep_X9_copy : GoodIn wsX3_keep (wsV RX3 59 RX9 yX9_copy wsX9_copy) := goodIn_app (goodIn_of _ (by decide +kernel)) ggX3_keep_X9_copy
theorem dX3_keep_0 : decode cX3_keep 0 = .ok (.aload_n 0, 1) := by decide +kernel
theorem dX3_keep_1 : decode cX3_keep 1 = .ok (.aload_n 1, 1) := by decide +kernel
theorem dX3_keep_2 : decode cX3_keep 2 = .ok (.invokevirtual 26, 3) := by decide +kernel
theorem dX3_keep_5 : decode cX3_keep 5 = .ok (.putfield 22, 3) := by decide +kernel
theorem dX3_keep_8 : decode cX3_keep 8 = .ok (.iconst 0, 1) := by decide +kernel
theorem dX3_keep_9 : decode cX3_keep 9 = .ok (.istore_n 2, 1) := by decide +kernel
theorem dX3_keep_10 : decode cX3_keep 10 = .ok (.iload_n 2, 1) := by decide +kernel
theorem dX3_keep_11 : decode cX3_keep 11 = .ok (.aload_n 0, 1) := by decide +kernel
theorem dX3_keep_12 : decode cX3_keep 12 = .ok (.getfield 22, 3) := by decide +kernel
theorem dX3_keep_15 : decode cX3_keep 15 = .ok (.if_icmp .ge 25, 3) := by decide +kernel
theorem dX3_keep_18 : decode cX3_keep 18 = .ok (.aload_n 0, 1) := by decide +kernel
theorem dX3_keep_19 : decode cX3_keep 19 = .ok (.iload_n 2, 1) := by decide +kernel
theorem dX3_keep_20 : decode cX3_keep 20 = .ok (.invokevirtual 41, 3) := by decide +kernel
theorem dX3_keep_23 : decode cX3_keep 23 = .ok (.aload_n 1, 1) := by decide +kernel
theorem dX3_keep_24 : decode cX3_keep 24 = .ok (.iload_n 2, 1) := by decide +kernel
theorem dX3_keep_25 : decode cX3_keep 25 = .ok (.invokevirtual 45, 3) := by decide +kernel
theorem dX3_keep_28 : decode cX3_keep 28 = .ok (.invokevirtual 49, 3) := by decide +kernel
theorem dX3_keep_31 : decode cX3_keep 31 = .ok (.invokevirtual 59, 3) := by decide +kernel
theorem dX3_keep_34 : decode cX3_keep 34 = .ok (.iinc 2 1, 3) := by decide +kernel
theorem dX3_keep_37 : decode cX3_keep 37 = .ok (.goto (-27), 3) := by decide +kernel
theorem dX3_keep_40 : decode cX3_keep 40 = .ok (.return_, 1) := by decide +kernel
def fX3_keep_l10 (p0 : Nat) (p1 : Nat) (v5 : Int32) (m6 : dM) : Option ((Int32 × dM) ⊕ dM) := if (m6.1 p0 2) ≤ v5 then some (.inr m6) else (fX3_publishedOf m6 p0 v5).bind (fun v20 => dg (dkg v20 10) ((fX8_numbered m6 p1 v5).bind (fun v23 => dg (dkg v23 6) ((fX5_ends m6 v23).bind (fun v26 => dg (dkg v26 10) ((fX9_copy m6 v20 v26).bind (fun m29 => dlet (v5 + 1 : Int32) (fun v30 => some (.inl (v30, m29))))))))))
def fX3_keep (m : dM) (p0 : Nat) (p1 : Nat) : Option dM := dg (dkg p0 4) (dg (dkg p1 9) ((fX8_number m p1).bind (fun v2 => dlet (d1 m p0 2 v2) (fun m3 => (dlp (fun q => dP2 q (fun v5 m6 => fX3_keep_l10 p0 p1 v5 m6)) dFl (0, m3)).bind (fun q => dP1 q (fun m31 => some m31))))))
set_option maxHeartbeats 4000000 in
set_option maxRecDepth 100000 in
theorem kX3_keep (l : Launch) (g : dG) {m : dM} {p0 : Nat} {p1 : Nat} {m0 : dM} (h : fX3_keep m p0 p1 = some m0) : dMet l g yX3_keep wsX3_keep (dRm 3 65) [.ref (dad g p0), .ref (dad g p1)] m (dQV g m0) := by
  refine dof (cc := cX3_keep) (maxL := 3) (ret := none) _ (plainFor_of_name (by decide)) rfl (Nat.le_of_ble_eq_true rfl) ?_
  intro p e s mth below meth c S hr hlk hE H ls hP hS hl
  have S : CallFix p mth c cX3_keep 3 s _ wsX3_keep RX3 := S
  have hl : lv_has ls 3 [(0, .ref (dad g p0)), (1, .ref (dad g p1))] := hl
  obtain ⟨locs, hlocs⟩ : ∃ z : List Loc, z = [] := ⟨_, rfl⟩
  rw [← hlocs] at hS ⊢
  have in3 : ∀ w ∈ wsX30, w ∈ wsX3_keep := by decide +kernel
  unfold fX3_keep at h
  obtain ⟨k0, h⟩ := d_g h
  have k0 := d_k k0
  obtain ⟨k1, h⟩ := d_g h
  have k1 := d_k k1
  refine lv_aload_n S.1 S.2.1 dX3_keep_0 rfl (lv_at hl 0 rfl) ?_
  refine lv_aload_n S.1 S.2.1 dX3_keep_1 rfl (lv_at hl 1 rfl) ?_
  obtain ⟨v2, hc1, h⟩ := d_b h
  refine dri (va_runV (As := []) (rest := [.ref (dad g p0)]) S (kX8_number l g hc1) (cwV 0 S.2.2.2.2 gX3_keep_X8_number rfl rfl rfl ynX8_number ⟨Nat.le_of_ble_eq_true rfl, Nat.le_of_ble_eq_true rfl⟩) (dpV hE hP hS (ci := 8) rfl (dat9 k1)) rfl rfl hl.1 rfl (lv_room (Nat.le_of_ble_eq_true rfl)) dX3_keep_2 ⟨Nat.le_of_ble_eq_true rfl, Nat.le_of_ble_eq_true rfl⟩) hS (fun H locs hP hS => ?_)
  refine dpf3_2 S in3 hE hP hS k0 (S.2.2.2.2 (.fieldLink RX3 22 "DrillField$Pages" "parts" "I") (List.mem_of_getElem? (i := 1) rfl)) dX3_keep_5 (fun H locs hP hS => ?_)
  obtain ⟨m3, em3⟩ : ∃ z : dM, z = d1 m p0 2 v2 := ⟨_, rfl⟩
  have h := d_let em3 h
  rw [← em3] at hP
  refine lv_iconst (v := 0) S.1 S.2.1 dX3_keep_8 (by decide) ?_
  refine lv_istore_n (lv' := [(2, .int 0), (0, .ref (dad g p0)), (1, .ref (dad g p1))]) S.1 S.2.1 dX3_keep_9 rfl hl (by decide) rfl (fun ls hl => ?_)
  obtain ⟨qL4, hqL4, h⟩ := d_b h
  refine d_lp (Hd := fun q => match q with | (v5, m6) => ∀ (H : Heap) (locs : List Loc) (ls : Array Slot), va_P g.1 vwCl (dws g m6) H → va_S (dA g) s.heap H locs → lv_has ls 3 [(2, .int v5), (0, .ref (dad g p0)), (1, .ref (dad g p1))] → W p l e (headSpec wsX3_keep (dRm 3 65)).room s mth (([.ref (dad g p0), .ref (dad g p1)] : List Value).toArray) below meth c H locs 0 0 (MQ below (dQV g m0) (([.ref (dad g p0), .ref (dad g p1)] : List Value).toArray) s 0 0 (dA g)) (F0 mth 10 ls [])) (K := fun q => (fun (m31 : _) => ∀ (H : Heap) (locs : List Loc) (ls : Array Slot), va_P g.1 vwCl (dws g m31) H → va_S (dA g) s.heap H locs → lv_has ls 3 [] → W p l e (headSpec wsX3_keep (dRm 3 65)).room s mth (([.ref (dad g p0), .ref (dad g p1)] : List Value).toArray) below meth c H locs 0 0 (MQ below (dQV g m0) (([.ref (dad g p0), .ref (dad g p1)] : List Value).toArray) s 0 0 (dA g)) (F0 mth 40 ls [])) q) ?_ dFl _ qL4 hqL4 ?_ H locs ls hP hS (lv_sub hl [0, 1, 2] rfl)
  · intro q o h hCL4 hEL4
    obtain ⟨v5, m6⟩ := q
    have h : fX3_keep_l10 p0 p1 v5 m6 = some o := h
    intro H locs ls hP hS hl
    have hP : va_P g.1 vwCl (dws g m6) H := hP
    have hl : lv_has ls 3 [(2, .int v5), (0, .ref (dad g p0)), (1, .ref (dad g p1))] := hl
    unfold fX3_keep_l10 at h
    refine lv_iload_n S.1 S.2.1 dX3_keep_10 rfl (lv_at hl 0 rfl) ?_
    refine lv_aload_n S.1 S.2.1 dX3_keep_11 rfl (lv_at hl 1 rfl) ?_
    refine dgf3_2 S in3 hE hP k0 (S.2.2.2.2 (.fieldLink RX3 22 "DrillField$Pages" "parts" "I") (List.mem_of_getElem? (i := 1) rfl)) dX3_keep_12 ?_
    refine lv_icmp_ge (tgt := 40) S.1 S.2.1 dX3_keep_15 (by decide) (fun cq => ?_) (fun cq => ?_)
    · have h := d_t cq h
      obtain rfl := Option.some.inj h
      exact hEL4 _ rfl H locs ls hP hS (lv_sub hl [] rfl)
    · have h := d_f cq h
      refine lv_aload_n S.1 S.2.1 dX3_keep_18 rfl (lv_at hl 1 rfl) ?_
      refine lv_iload_n S.1 S.2.1 dX3_keep_19 rfl (lv_at hl 0 rfl) ?_
      obtain ⟨v20, hc19, h⟩ := d_b h
      obtain ⟨hk21, h⟩ := d_g h
      have hk21 := d_k hk21
      refine drr (va_runV (As := [.int v5]) (rest := []) S (kX3_publishedOf l g hc19) (cwV 1 S.2.2.2.2 gX3_keep_X3_publishedOf rfl rfl rfl ynX3_publishedOf ⟨Nat.le_of_ble_eq_true rfl, Nat.le_of_ble_eq_true rfl⟩) (dpV hE hP hS (ci := 3) rfl (dat4 k0)) rfl rfl hl.1 rfl (lv_room (Nat.le_of_ble_eq_true rfl)) dX3_keep_20 ⟨Nat.le_of_ble_eq_true rfl, Nat.le_of_ble_eq_true rfl⟩) hS (fun H locs hP hS => ?_)
      refine lv_aload_n S.1 S.2.1 dX3_keep_23 rfl (lv_at hl 2 rfl) ?_
      refine lv_iload_n S.1 S.2.1 dX3_keep_24 rfl (lv_at hl 0 rfl) ?_
      obtain ⟨v23, hc22, h⟩ := d_b h
      obtain ⟨hk24, h⟩ := d_g h
      have hk24 := d_k hk24
      refine drr (va_runV (As := [.int v5]) (rest := [.ref (dad g v20)]) S (kX8_numbered l g hc22) (cwV 1 S.2.2.2.2 gX3_keep_X8_numbered rfl rfl rfl ynX8_numbered ⟨Nat.le_of_ble_eq_true rfl, Nat.le_of_ble_eq_true rfl⟩) (dpV hE hP hS (ci := 8) rfl (dat9 k1)) rfl rfl hl.1 rfl (lv_room (Nat.le_of_ble_eq_true rfl)) dX3_keep_25 ⟨Nat.le_of_ble_eq_true rfl, Nat.le_of_ble_eq_true rfl⟩) hS (fun H locs hP hS => ?_)
      obtain ⟨v26, hc25, h⟩ := d_b h
      obtain ⟨hk27, h⟩ := d_g h
      have hk27 := d_k hk27
      refine drr (va_runV (As := []) (rest := [.ref (dad g v20)]) S (kX5_ends l g hc25) (cwV 0 S.2.2.2.2 gX3_keep_X5_ends rfl rfl rfl ynX5_ends ⟨Nat.le_of_ble_eq_true rfl, Nat.le_of_ble_eq_true rfl⟩) (dpV hE hP hS (ci := 5) rfl (dat6 hk24)) rfl rfl hl.1 rfl (lv_room (Nat.le_of_ble_eq_true rfl)) dX3_keep_28 ⟨Nat.le_of_ble_eq_true rfl, Nat.le_of_ble_eq_true rfl⟩) hS (fun H locs hP hS => ?_)
      obtain ⟨m29, hc28, h⟩ := d_b h
      refine drv (va_runV (As := [.ref (dad g v26)]) (rest := []) S (kX9_copy l g hc28) (cwV 1 S.2.2.2.2 gX3_keep_X9_copy rfl rfl rfl ynX9_copy ⟨Nat.le_of_ble_eq_true rfl, Nat.le_of_ble_eq_true rfl⟩) (dpV hE hP hS (ci := 9) rfl (dat10 hk21)) rfl rfl hl.1 rfl (lv_room (Nat.le_of_ble_eq_true rfl)) dX3_keep_31 ⟨Nat.le_of_ble_eq_true rfl, Nat.le_of_ble_eq_true rfl⟩) hS (fun H locs hP hS => ?_)
      obtain ⟨v30, ev30⟩ : ∃ z : Int32, z = v5 + 1 := ⟨_, rfl⟩
      have h := d_let ev30 h
      refine lv_iinc (v := v30) (lv' := [(2, .int v30), (0, .ref (dad g p0)), (1, .ref (dad g p1))]) S.1 S.2.1 dX3_keep_34 hl (k := 0) rfl (by rw [ev30]; rfl) (by decide) rfl (fun ls hl => ?_)
      refine lv_goto (tgt := 10) S.1 S.2.1 dX3_keep_37 (by decide) ?_
      obtain rfl := Option.some.inj h
      exact hCL4 _ rfl H locs ls hP hS (lv_sub hl [0, 1, 2] rfl)
  · obtain ⟨m31, rfl⟩ : ∃ z, z = qL4 := ⟨_, rfl⟩
    have h := d_p1 h
    intro H locs ls hP hS hl
    have hP : va_P g.1 vwCl (dws g m31) H := hP
    have hl : lv_has ls 3 [] := hl
    obtain rfl := Option.some.inj h
    exact dtv S hr hlk hE hP hS dX3_keep_40
