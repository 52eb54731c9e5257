theorem dX5_ends_0 : decode cX5_ends 0 = .ok (.aload_n 0, 1) := by decide +kernel
theorem dX5_ends_1 : decode cX5_ends 1 = .ok (.getfield 18, 3) := by decide +kernel
theorem dX5_ends_4 : decode cX5_ends 4 = .ok (.areturn, 1) := by decide +kernel
def fX5_ends (m : dM) (p0 : Nat) : Option Nat := dg (dkg p0 6) (some (p0 + 4))
set_option maxHeartbeats 4000000 in
set_option maxRecDepth 100000 in
theorem kX5_ends (l : Launch) (g : dG) {m : dM} {p0 : Nat} {r0 : Nat} (h : fX5_ends m p0 = some r0) : dMet l g yX5_ends wsX5_ends (dRm 0 0) [.ref (dad g p0)] m (dQR g r0 m) := by
  refine dof (cc := cX5_ends) (maxL := 1) (ret := (some (.object "DrillField$Spots"))) _ (plainFor_of_name (by decide)) rfl (Nat.le_of_ble_eq_true rfl) ?_
  intro p e s mth below meth c S hr hlk hE H ls hP hS hl
  have S : CallFix p mth c cX5_ends 1 s _ wsX5_ends RX5 := S
  have hl : lv_has ls 1 [(0, .ref (dad g p0))] := hl
  obtain ⟨locs, hlocs⟩ : ∃ z : List Loc, z = [] := ⟨_, rfl⟩
  rw [← hlocs] at hS ⊢
  have in5 : ∀ w ∈ wsX50, w ∈ wsX5_ends := by decide +kernel
  unfold fX5_ends at h
  obtain ⟨k0, h⟩ := d_g h
  have k0 := d_k k0
  refine lv_aload_n S.1 S.2.1 dX5_ends_0 rfl (lv_at hl 0 rfl) ?_
  refine dgf5_1 S in5 hE hP k0 (S.2.2.2.2 (.fieldLink RX5 18 "DrillField$Part" "ends" "LDrillField$Spots;") (List.mem_of_getElem? (i := 1) rfl)) dX5_ends_1 ?_
  obtain rfl := Option.some.inj h
  exact dtr S hr hlk hE hP hS dX5_ends_4
theorem dX5_starts_0 : decode cX5_starts 0 = .ok (.aload_n 0, 1) := by decide +kernel
theorem dX5_starts_1 : decode cX5_starts 1 = .ok (.getfield 12, 3) := by decide +kernel
theorem dX5_starts_4 : decode cX5_starts 4 = .ok (.areturn, 1) := by decide +kernel
def fX5_starts (m : dM) (p0 : Nat) : Option Nat := dg (dkg p0 6) (some (p0 + 1))
set_option maxHeartbeats 4000000 in
set_option maxRecDepth 100000 in
theorem kX5_starts (l : Launch) (g : dG) {m : dM} {p0 : Nat} {r0 : Nat} (h : fX5_starts m p0 = some r0) : dMet l g yX5_starts wsX5_starts (dRm 0 0) [.ref (dad g p0)] m (dQR g r0 m) := by
  refine dof (cc := cX5_starts) (maxL := 1) (ret := (some (.object "DrillField$Spots"))) _ (plainFor_of_name (by decide)) rfl (Nat.le_of_ble_eq_true rfl) ?_
  intro p e s mth below meth c S hr hlk hE H ls hP hS hl
  have S : CallFix p mth c cX5_starts 1 s _ wsX5_starts RX5 := S
  have hl : lv_has ls 1 [(0, .ref (dad g p0))] := hl
  obtain ⟨locs, hlocs⟩ : ∃ z : List Loc, z = [] := ⟨_, rfl⟩
  rw [← hlocs] at hS ⊢
  have in5 : ∀ w ∈ wsX50, w ∈ wsX5_starts := by decide +kernel
  unfold fX5_starts at h
  obtain ⟨k0, h⟩ := d_g h
  have k0 := d_k k0
  refine lv_aload_n S.1 S.2.1 dX5_starts_0 rfl (lv_at hl 0 rfl) ?_
  refine dgf5_0 S in5 hE hP k0 (S.2.2.2.2 (.fieldLink RX5 12 "DrillField$Part" "starts" "LDrillField$Spots;") (List.mem_of_getElem? (i := 1) rfl)) dX5_starts_1 ?_
  obtain rfl := Option.some.inj h
  exact dtr S hr hlk hE hP hS dX5_starts_4
set_option maxRecDepth 20000 in
theorem ggX5_send_X11_isInRow : GoodIn wsX5_send wsX11_isInRow := goodIn_r _ [5] (by decide +kernel) (by decide +kernel)
set_option maxRecDepth 20000 in
theorem gX5_send_X11_isInRow_n39 : GoodIn wsX5_send (wsX11_isInRow) := ggX5_send_X11_isInRow
set_option maxRecDepth 20000 in
theorem ggX5_send_X9_x : GoodIn wsX5_send wsX9_x := goodIn_r _ [10, 11, 3, 4, 5, 28, 29] (by decide +kernel) (by decide +kernel)
set_option maxRecDepth 20000 in
theorem gX5_send_X9_x : GoodIn wsX5_send (wsV RX5 43 RX9 yX9_x wsX9_x) := goodIn_app (goodIn_of _ (by decide +kernel)) ggX5_send_X9_x
set_option maxRecDepth 20000 in
theorem ggX5_send_X9_y : GoodIn wsX5_send wsX9_y := goodIn_r _ [15, 16, 3, 4, 5, 28, 29] (by decide +kernel) (by decide +kernel)
set_option maxRecDepth 20000 in
theorem gX5_send_X9_y : GoodIn wsX5_send (wsV RX5 47 RX9 yX9_y wsX9_y) := goodIn_app (goodIn_of _ (by decide +kernel)) ggX5_send_X9_y
set_option maxRecDepth 20000 in
theorem ggX5_send_X9_put : GoodIn wsX5_send wsX9_put := goodIn_r _ [20, 11, 16, 3, 4, 5, 28, 29] (by decide +kernel) (by decide +kernel)
set_option maxRecDepth 20000 in
theorem gX5_send_X9_put : GoodIn wsX5_send (wsV RX5 50 RX9 yX9_put wsX9_put) := goodIn_app (goodIn_of _ (by decide +kernel)) ggX5_send_X9_put
theorem dX5_send_0 : decode cX5_send 0 = .ok (.iload_n 1, 1) := by decide +kernel
theorem dX5_send_1 : decode cX5_send 1 = .ok (.invokestatic 39, 3) := by decide +kernel
theorem dX5_send_4 : decode cX5_send 4 = .ok (.ifCond .eq 28, 3) := by decide +kernel
theorem dX5_send_7 : decode cX5_send 7 = .ok (.aload_n 0, 1) := by decide +kernel
theorem dX5_send_8 : decode cX5_send 8 = .ok (.getfield 21, 3) := by decide +kernel
theorem dX5_send_11 : decode cX5_send 11 = .ok (.iload_n 1, 1) := by decide +kernel
theorem dX5_send_12 : decode cX5_send 12 = .ok (.iload_n 2, 1) := by decide +kernel
theorem dX5_send_13 : decode cX5_send 13 = .ok (.iastore, 1) := by decide +kernel
theorem dX5_send_14 : decode cX5_send 14 = .ok (.aload_n 0, 1) := by decide +kernel
theorem dX5_send_15 : decode cX5_send 15 = .ok (.getfield 18, 3) := by decide +kernel
theorem dX5_send_18 : decode cX5_send 18 = .ok (.iload_n 1, 1) := by decide +kernel
theorem dX5_send_19 : decode cX5_send 19 = .ok (.aload_n 3, 1) := by decide +kernel
theorem dX5_send_20 : decode cX5_send 20 = .ok (.iload_n 2, 1) := by decide +kernel
theorem dX5_send_21 : decode cX5_send 21 = .ok (.invokevirtual 43, 3) := by decide +kernel
theorem dX5_send_24 : decode cX5_send 24 = .ok (.aload_n 3, 1) := by decide +kernel
theorem dX5_send_25 : decode cX5_send 25 = .ok (.iload_n 2, 1) := by decide +kernel
theorem dX5_send_26 : decode cX5_send 26 = .ok (.invokevirtual 47, 3) := by decide +kernel
theorem dX5_send_29 : decode cX5_send 29 = .ok (.invokevirtual 50, 3) := by decide +kernel
theorem dX5_send_32 : decode cX5_send 32 = .ok (.return_, 1) := by decide +kernel
def fX5_send (m : dM) (p0 : Nat) (p1 : Int32) (p2 : Int32) (p3 : Nat) : Option dM := dg (dkg p0 6) (dg (dkg p3 10) ((fX11_isInRow m p1).bind (fun v2 => if v2 = 0 then some m else dg (dIx p1 (dL (p0 + 7))) (dlet (d1 m (p0 + 7) (Int32.toNatClampNeg (p1)) p2) (fun m3 => (fX9_x m3 p3 p2).bind (fun v5 => (fX9_y m3 p3 p2).bind (fun v7 => (fX9_put m3 (p0 + 4) p1 v5 v7).bind (fun m9 => some m9))))))))
set_option maxHeartbeats 4000000 in
set_option maxRecDepth 100000 in
theorem kX5_send (l : Launch) (g : dG) {m : dM} {p0 : Nat} {p1 : Int32} {p2 : Int32} {p3 : Nat} {m0 : dM} (h : fX5_send m p0 p1 p2 p3 = some m0) : dMet l g yX5_send wsX5_send (dRm 2 43) [.ref (dad g p0), .int p1, .int p2, .ref (dad g p3)] m (dQV g m0) := by
  refine dof (cc := cX5_send) (maxL := 4) (ret := none) _ (plainFor_of_name (by decide)) rfl (Nat.le_of_ble_eq_true rfl) ?_
  intro p e s mth below meth c S hr hlk hE H ls hP hS hl
  have S : CallFix p mth c cX5_send 4 s _ wsX5_send RX5 := S
  have hl : lv_has ls 4 [(0, .ref (dad g p0)), (1, .int p1), (2, .int p2), (3, .ref (dad g p3))] := hl
  obtain ⟨locs, hlocs⟩ : ∃ z : List Loc, z = [] := ⟨_, rfl⟩
  rw [← hlocs] at hS ⊢
  have in5 : ∀ w ∈ wsX50, w ∈ wsX5_send := by decide +kernel
  unfold fX5_send at h
  obtain ⟨k0, h⟩ := d_g h
  have k0 := d_k k0
  obtain ⟨k3, h⟩ := d_g h
  have k3 := d_k k3
  refine lv_iload_n S.1 S.2.1 dX5_send_0 rfl (lv_at hl 1 rfl) ?_
  obtain ⟨v2, hc1, h⟩ := d_b h
  refine dri (va_runSN (As := [.int p1]) (rest := []) S (kX11_isInRow l g hc1) ⟨va_cnB 1 S.2.2.2.2 gX5_send_X11_isInRow_n39 rfl rfl rfl (dnq_RX5_39 hE) (S.2.2.2.2 (.initialized RX11) (List.mem_of_getElem? (i := 4) rfl)) ynX11_isInRow ⟨Nat.le_of_ble_eq_true rfl, Nat.le_of_ble_eq_true rfl⟩, S.2.2.2.2 (.static yX11_isInRow) (List.mem_of_getElem? (i := 3) rfl), trivial⟩ (dpS hE hP hS) rfl rfl hl.1 rfl (lv_room (Nat.le_of_ble_eq_true rfl)) dX5_send_1 ⟨Nat.le_of_ble_eq_true rfl, Nat.le_of_ble_eq_true rfl⟩) hS (fun H locs hP hS => ?_)
  refine lv_if_eq (tgt := 32) S.1 S.2.1 dX5_send_4 (by decide) (fun cq => ?_) (fun cq => ?_)
  · have h := d_t cq h
    obtain rfl := Option.some.inj h
    exact dtv S hr hlk hE hP hS dX5_send_32
  · have h := d_f cq h
    refine lv_aload_n S.1 S.2.1 dX5_send_7 rfl (lv_at hl 0 rfl) ?_
    refine dgf5_2 S in5 hE hP k0 (S.2.2.2.2 (.fieldLink RX5 21 "DrillField$Part" "places" "[I") (List.mem_of_getElem? (i := 1) rfl)) dX5_send_8 ?_
    refine lv_iload_n S.1 S.2.1 dX5_send_11 rfl (lv_at hl 1 rfl) ?_
    refine lv_iload_n S.1 S.2.1 dX5_send_12 rfl (lv_at hl 2 rfl) ?_
    obtain ⟨hi, h⟩ := d_g h
    refine d_iast S hE hP hS (dkr6_7 k0) hi dX5_send_13 (fun H locs hP hS => ?_)
    obtain ⟨m3, em3⟩ : ∃ z : dM, z = d1 m (p0 + 7) (Int32.toNatClampNeg (p1)) p2 := ⟨_, rfl⟩
    have h := d_let em3 h
    rw [← em3] at hP
    refine lv_aload_n S.1 S.2.1 dX5_send_14 rfl (lv_at hl 0 rfl) ?_
    refine dgf5_1 S in5 hE hP k0 (S.2.2.2.2 (.fieldLink RX5 18 "DrillField$Part" "ends" "LDrillField$Spots;") (List.mem_of_getElem? (i := 2) rfl)) dX5_send_15 ?_
    refine lv_iload_n S.1 S.2.1 dX5_send_18 rfl (lv_at hl 1 rfl) ?_
    refine lv_aload_n S.1 S.2.1 dX5_send_19 rfl (lv_at hl 3 rfl) ?_
    refine lv_iload_n S.1 S.2.1 dX5_send_20 rfl (lv_at hl 2 rfl) ?_
    obtain ⟨v5, hc4, h⟩ := d_b h
    refine dri (va_runV (As := [.int p2]) (rest := [.int p1, .ref (dad g (p0 + 4))]) S (kX9_x l g hc4) (cwV 1 S.2.2.2.2 gX5_send_X9_x rfl rfl rfl ynX9_x ⟨Nat.le_of_ble_eq_true rfl, Nat.le_of_ble_eq_true rfl⟩) (dpV hE hP hS (ci := 9) rfl (dat10 k3)) rfl rfl hl.1 rfl (lv_room (Nat.le_of_ble_eq_true rfl)) dX5_send_21 ⟨Nat.le_of_ble_eq_true rfl, Nat.le_of_ble_eq_true rfl⟩) hS (fun H locs hP hS => ?_)
    refine lv_aload_n S.1 S.2.1 dX5_send_24 rfl (lv_at hl 3 rfl) ?_
    refine lv_iload_n S.1 S.2.1 dX5_send_25 rfl (lv_at hl 2 rfl) ?_
    obtain ⟨v7, hc6, h⟩ := d_b h
    refine dri (va_runV (As := [.int p2]) (rest := [.int v5, .int p1, .ref (dad g (p0 + 4))]) S (kX9_y l g hc6) (cwV 1 S.2.2.2.2 gX5_send_X9_y rfl rfl rfl ynX9_y ⟨Nat.le_of_ble_eq_true rfl, Nat.le_of_ble_eq_true rfl⟩) (dpV hE hP hS (ci := 9) rfl (dat10 k3)) rfl rfl hl.1 rfl (lv_room (Nat.le_of_ble_eq_true rfl)) dX5_send_26 ⟨Nat.le_of_ble_eq_true rfl, Nat.le_of_ble_eq_true rfl⟩) hS (fun H locs hP hS => ?_)
    obtain ⟨m9, hc8, h⟩ := d_b h
    refine drv (va_runV (As := [.int p1, .int v5, .int v7]) (rest := []) S (kX9_put l g hc8) (cwV 3 S.2.2.2.2 gX5_send_X9_put rfl rfl rfl ynX9_put ⟨Nat.le_of_ble_eq_true rfl, Nat.le_of_ble_eq_true rfl⟩) (dpV hE hP hS (ci := 9) rfl (dat10 (dkr6_4 k0))) rfl rfl hl.1 rfl (lv_room (Nat.le_of_ble_eq_true rfl)) dX5_send_29 ⟨Nat.le_of_ble_eq_true rfl, Nat.le_of_ble_eq_true rfl⟩) hS (fun H locs hP hS => ?_)
    obtain rfl := Option.some.inj h
    exact dtv S hr hlk hE hP hS dX5_send_32
theorem dX5_counts_0 : decode cX5_counts 0 = .ok (.aload_n 0, 1) := by decide +kernel
theorem dX5_counts_1 : decode cX5_counts 1 = .ok (.getfield 25, 3) := by decide +kernel
theorem dX5_counts_4 : decode cX5_counts 4 = .ok (.ireturn, 1) := by decide +kernel
def fX5_counts (m : dM) (p0 : Nat) : Option Int32 := dg (dkg p0 6) (some (m.1 p0 4))
set_option maxHeartbeats 4000000 in
set_option maxRecDepth 100000 in
theorem kX5_counts (l : Launch) (g : dG) {m : dM} {p0 : Nat} {r0 : Int32} (h : fX5_counts m p0 = some r0) : dMet l g yX5_counts wsX5_counts (dRm 0 0) [.ref (dad g p0)] m (dQI g r0 m) := by
  refine dof (cc := cX5_counts) (maxL := 1) (ret := (some .int)) _ (plainFor_of_name (by decide)) rfl (Nat.le_of_ble_eq_true rfl) ?_
  intro p e s mth below meth c S hr hlk hE H ls hP hS hl
  have S : CallFix p mth c cX5_counts 1 s _ wsX5_counts RX5 := S
  have hl : lv_has ls 1 [(0, .ref (dad g p0))] := hl
  obtain ⟨locs, hlocs⟩ : ∃ z : List Loc, z = [] := ⟨_, rfl⟩
  rw [← hlocs] at hS ⊢
  have in5 : ∀ w ∈ wsX50, w ∈ wsX5_counts := by decide +kernel
  unfold fX5_counts at h
  obtain ⟨k0, h⟩ := d_g h
  have k0 := d_k k0
  refine lv_aload_n S.1 S.2.1 dX5_counts_0 rfl (lv_at hl 0 rfl) ?_
  refine dgf5_4 S in5 hE hP k0 (S.2.2.2.2 (.fieldLink RX5 25 "DrillField$Part" "counts" "I") (List.mem_of_getElem? (i := 1) rfl)) dX5_counts_1 ?_
  obtain rfl := Option.some.inj h
  exact dti S hr hlk hE hP hS rfl dX5_counts_4
set_option maxRecDepth 20000 in
theorem ggX5_isBetterWithTwoChanged_X9_squareTo : GoodIn wsX5_isBetterWithTwoChanged wsX9_squareTo := goodIn_r _ [7, 8, 9, 10, 11, 12, 13, 14, 22, 23] (by decide +kernel) (by decide +kernel)
set_option maxRecDepth 20000 in
theorem gX5_isBetterWithTwoChanged_X9_squareTo : GoodIn wsX5_isBetterWithTwoChanged (wsV RX5 64 RX9 yX9_squareTo wsX9_squareTo) := goodIn_app (goodIn_of _ (by decide +kernel)) ggX5_isBetterWithTwoChanged_X9_squareTo
theorem dX5_isBetterWithTwoChanged_0 : decode cX5_isBetterWithTwoChanged 0 = .ok (.iconst 0, 1) := by decide +kernel
theorem dX5_isBetterWithTwoChanged_1 : decode cX5_isBetterWithTwoChanged 1 = .ok (.istore_n 2, 1) := by decide +kernel
theorem dX5_isBetterWithTwoChanged_2 : decode cX5_isBetterWithTwoChanged 2 = .ok (.iload_n 2, 1) := by decide +kernel
theorem dX5_isBetterWithTwoChanged_3 : decode cX5_isBetterWithTwoChanged 3 = .ok (.iload_n 1, 1) := by decide +kernel
theorem dX5_isBetterWithTwoChanged_4 : decode cX5_isBetterWithTwoChanged 4 = .ok (.if_icmp .ge 91, 3) := by decide +kernel
theorem dX5_isBetterWithTwoChanged_7 : decode cX5_isBetterWithTwoChanged 7 = .ok (.iload_n 2, 1) := by decide +kernel
theorem dX5_isBetterWithTwoChanged_8 : decode cX5_isBetterWithTwoChanged 8 = .ok (.iconst 1, 1) := by decide +kernel
theorem dX5_isBetterWithTwoChanged_9 : decode cX5_isBetterWithTwoChanged 9 = .ok (.iadd, 1) := by decide +kernel
theorem dX5_isBetterWithTwoChanged_10 : decode cX5_isBetterWithTwoChanged 10 = .ok (.istore_n 3, 1) := by decide +kernel
theorem dX5_isBetterWithTwoChanged_11 : decode cX5_isBetterWithTwoChanged 11 = .ok (.iload_n 3, 1) := by decide +kernel
theorem dX5_isBetterWithTwoChanged_12 : decode cX5_isBetterWithTwoChanged 12 = .ok (.iload_n 1, 1) := by decide +kernel
theorem dX5_isBetterWithTwoChanged_13 : decode cX5_isBetterWithTwoChanged 13 = .ok (.if_icmp .ge 76, 3) := by decide +kernel
theorem dX5_isBetterWithTwoChanged_16 : decode cX5_isBetterWithTwoChanged 16 = .ok (.aload_n 0, 1) := by decide +kernel
theorem dX5_isBetterWithTwoChanged_17 : decode cX5_isBetterWithTwoChanged 17 = .ok (.getfield 12, 3) := by decide +kernel
theorem dX5_isBetterWithTwoChanged_20 : decode cX5_isBetterWithTwoChanged 20 = .ok (.iload_n 2, 1) := by decide +kernel
theorem dX5_isBetterWithTwoChanged_21 : decode cX5_isBetterWithTwoChanged 21 = .ok (.aload_n 0, 1) := by decide +kernel
theorem dX5_isBetterWithTwoChanged_22 : decode cX5_isBetterWithTwoChanged 22 = .ok (.getfield 18, 3) := by decide +kernel
theorem dX5_isBetterWithTwoChanged_25 : decode cX5_isBetterWithTwoChanged 25 = .ok (.iload_n 2, 1) := by decide +kernel
theorem dX5_isBetterWithTwoChanged_26 : decode cX5_isBetterWithTwoChanged 26 = .ok (.invokevirtual 64, 3) := by decide +kernel
theorem dX5_isBetterWithTwoChanged_29 : decode cX5_isBetterWithTwoChanged 29 = .ok (.aload_n 0, 1) := by decide +kernel
theorem dX5_isBetterWithTwoChanged_30 : decode cX5_isBetterWithTwoChanged 30 = .ok (.getfield 12, 3) := by decide +kernel
theorem dX5_isBetterWithTwoChanged_33 : decode cX5_isBetterWithTwoChanged 33 = .ok (.iload_n 3, 1) := by decide +kernel
theorem dX5_isBetterWithTwoChanged_34 : decode cX5_isBetterWithTwoChanged 34 = .ok (.aload_n 0, 1) := by decide +kernel
theorem dX5_isBetterWithTwoChanged_35 : decode cX5_isBetterWithTwoChanged 35 = .ok (.getfield 18, 3) := by decide +kernel
theorem dX5_isBetterWithTwoChanged_38 : decode cX5_isBetterWithTwoChanged 38 = .ok (.iload_n 3, 1) := by decide +kernel
theorem dX5_isBetterWithTwoChanged_39 : decode cX5_isBetterWithTwoChanged 39 = .ok (.invokevirtual 64, 3) := by decide +kernel
theorem dX5_isBetterWithTwoChanged_42 : decode cX5_isBetterWithTwoChanged 42 = .ok (.iadd, 1) := by decide +kernel
theorem dX5_isBetterWithTwoChanged_43 : decode cX5_isBetterWithTwoChanged 43 = .ok (.istore 4, 2) := by decide +kernel
theorem dX5_isBetterWithTwoChanged_45 : decode cX5_isBetterWithTwoChanged 45 = .ok (.aload_n 0, 1) := by decide +kernel
theorem dX5_isBetterWithTwoChanged_46 : decode cX5_isBetterWithTwoChanged 46 = .ok (.getfield 12, 3) := by decide +kernel
theorem dX5_isBetterWithTwoChanged_49 : decode cX5_isBetterWithTwoChanged 49 = .ok (.iload_n 2, 1) := by decide +kernel
theorem dX5_isBetterWithTwoChanged_50 : decode cX5_isBetterWithTwoChanged 50 = .ok (.aload_n 0, 1) := by decide +kernel
theorem dX5_isBetterWithTwoChanged_51 : decode cX5_isBetterWithTwoChanged 51 = .ok (.getfield 18, 3) := by decide +kernel
theorem dX5_isBetterWithTwoChanged_54 : decode cX5_isBetterWithTwoChanged 54 = .ok (.iload_n 3, 1) := by decide +kernel
theorem dX5_isBetterWithTwoChanged_55 : decode cX5_isBetterWithTwoChanged 55 = .ok (.invokevirtual 64, 3) := by decide +kernel
theorem dX5_isBetterWithTwoChanged_58 : decode cX5_isBetterWithTwoChanged 58 = .ok (.aload_n 0, 1) := by decide +kernel
theorem dX5_isBetterWithTwoChanged_59 : decode cX5_isBetterWithTwoChanged 59 = .ok (.getfield 12, 3) := by decide +kernel
theorem dX5_isBetterWithTwoChanged_62 : decode cX5_isBetterWithTwoChanged 62 = .ok (.iload_n 3, 1) := by decide +kernel
theorem dX5_isBetterWithTwoChanged_63 : decode cX5_isBetterWithTwoChanged 63 = .ok (.aload_n 0, 1) := by decide +kernel
theorem dX5_isBetterWithTwoChanged_64 : decode cX5_isBetterWithTwoChanged 64 = .ok (.getfield 18, 3) := by decide +kernel
theorem dX5_isBetterWithTwoChanged_67 : decode cX5_isBetterWithTwoChanged 67 = .ok (.iload_n 2, 1) := by decide +kernel
theorem dX5_isBetterWithTwoChanged_68 : decode cX5_isBetterWithTwoChanged 68 = .ok (.invokevirtual 64, 3) := by decide +kernel
theorem dX5_isBetterWithTwoChanged_71 : decode cX5_isBetterWithTwoChanged 71 = .ok (.iadd, 1) := by decide +kernel
theorem dX5_isBetterWithTwoChanged_72 : decode cX5_isBetterWithTwoChanged 72 = .ok (.istore 5, 2) := by decide +kernel
theorem dX5_isBetterWithTwoChanged_74 : decode cX5_isBetterWithTwoChanged 74 = .ok (.iload 5, 2) := by decide +kernel
theorem dX5_isBetterWithTwoChanged_76 : decode cX5_isBetterWithTwoChanged 76 = .ok (.iload 4, 2) := by decide +kernel
theorem dX5_isBetterWithTwoChanged_78 : decode cX5_isBetterWithTwoChanged 78 = .ok (.if_icmp .ge 5, 3) := by decide +kernel
theorem dX5_isBetterWithTwoChanged_81 : decode cX5_isBetterWithTwoChanged 81 = .ok (.iconst 1, 1) := by decide +kernel
theorem dX5_isBetterWithTwoChanged_82 : decode cX5_isBetterWithTwoChanged 82 = .ok (.ireturn, 1) := by decide +kernel
theorem dX5_isBetterWithTwoChanged_83 : decode cX5_isBetterWithTwoChanged 83 = .ok (.iinc 3 1, 3) := by decide +kernel
theorem dX5_isBetterWithTwoChanged_86 : decode cX5_isBetterWithTwoChanged 86 = .ok (.goto (-75), 3) := by decide +kernel
theorem dX5_isBetterWithTwoChanged_89 : decode cX5_isBetterWithTwoChanged 89 = .ok (.iinc 2 1, 3) := by decide +kernel
theorem dX5_isBetterWithTwoChanged_92 : decode cX5_isBetterWithTwoChanged 92 = .ok (.goto (-90), 3) := by decide +kernel
theorem dX5_isBetterWithTwoChanged_95 : decode cX5_isBetterWithTwoChanged 95 = .ok (.iconst 0, 1) := by decide +kernel
theorem dX5_isBetterWithTwoChanged_96 : decode cX5_isBetterWithTwoChanged 96 = .ok (.ireturn, 1) := by decide +kernel
def fX5_isBetterWithTwoChanged_l11 (m : dM) (p0 : Nat) (p1 : Int32) (v2 : Int32) (v31 : Int32) : Option (Int32 ⊕ (Unit ⊕ Unit)) := if p1 ≤ v31 then some (.inr (.inr ())) else (fX9_squareTo m (p0 + 1) v2 (p0 + 4) v2).bind (fun v44 => (fX9_squareTo m (p0 + 1) v31 (p0 + 4) v31).bind (fun v46 => dlet (v44 + v46 : Int32) (fun v47 => (fX9_squareTo m (p0 + 1) v2 (p0 + 4) v31).bind (fun v49 => (fX9_squareTo m (p0 + 1) v31 (p0 + 4) v2).bind (fun v51 => dlet (v49 + v51 : Int32) (fun v52 => if v47 ≤ v52 then dlet (v31 + 1 : Int32) (fun v53 => some (.inl v53)) else some (.inr (.inl ()))))))))
def fX5_isBetterWithTwoChanged_l2 (m : dM) (p0 : Nat) (p1 : Int32) (v2 : Int32) : Option (Int32 ⊕ (Unit ⊕ Unit)) := if p1 ≤ v2 then some (.inr (.inr ())) else dlet (v2 + 1 : Int32) (fun v29 => (dlp (fun q => (fun v31 => fX5_isBetterWithTwoChanged_l11 m p0 p1 v2 v31) q) dFl v29).bind (fun q => dS q (fun _ => some (.inr (.inl ()))) (fun _ => dlet (v2 + 1 : Int32) (fun v54 => some (.inl v54)))))
def fX5_isBetterWithTwoChanged (m : dM) (p0 : Nat) (p1 : Int32) : Option Int32 := dg (dkg p0 6) ((dlp (fun q => (fun v2 => fX5_isBetterWithTwoChanged_l2 m p0 p1 v2) q) dFl 0).bind (fun q => dS q (fun _ => some 1) (fun _ => some 0)))
set_option maxHeartbeats 4000000 in
set_option maxRecDepth 100000 in
theorem kX5_isBetterWithTwoChanged (l : Launch) (g : dG) {m : dM} {p0 : Nat} {p1 : Int32} {r0 : Int32} (h : fX5_isBetterWithTwoChanged m p0 p1 = some r0) : dMet l g yX5_isBetterWithTwoChanged wsX5_isBetterWithTwoChanged (dRm 2 44) [.ref (dad g p0), .int p1] m (dQI g r0 m) := by
  refine dof (cc := cX5_isBetterWithTwoChanged) (maxL := 6) (ret := (some .boolean)) _ (plainFor_of_name (by decide)) rfl (Nat.le_of_ble_eq_true rfl) ?_
  intro p e s mth below meth c S hr hlk hE H ls hP hS hl
  have S : CallFix p mth c cX5_isBetterWithTwoChanged 6 s _ wsX5_isBetterWithTwoChanged RX5 := S
  have hl : lv_has ls 6 [(0, .ref (dad g p0)), (1, .int p1)] := hl
  obtain ⟨locs, hlocs⟩ : ∃ z : List Loc, z = [] := ⟨_, rfl⟩
  rw [← hlocs] at hS ⊢
  have in5 : ∀ w ∈ wsX50, w ∈ wsX5_isBetterWithTwoChanged := by decide +kernel
  unfold fX5_isBetterWithTwoChanged at h
  obtain ⟨k0, h⟩ := d_g h
  have k0 := d_k k0
  refine lv_iconst (v := 0) S.1 S.2.1 dX5_isBetterWithTwoChanged_0 (by decide) ?_
  refine lv_istore_n (lv' := [(2, .int 0), (0, .ref (dad g p0)), (1, .int p1)]) S.1 S.2.1 dX5_isBetterWithTwoChanged_1 rfl hl (by decide) rfl (fun ls hl => ?_)
  obtain ⟨qL1, hqL1, h⟩ := d_b h
  refine d_lp (Hd := fun q => (fun (v2 : _) => ∀ (H : Heap) (locs : List Loc) (ls : Array Slot), va_P g.1 vwCl (dws g m) H → va_S (dA g) s.heap H locs → lv_has ls 6 [(2, .int v2), (0, .ref (dad g p0)), (1, .int p1)] → W p l e (headSpec wsX5_isBetterWithTwoChanged (dRm 2 44)).room s mth (([.ref (dad g p0), .int p1] : List Value).toArray) below meth c H locs 0 0 (MQ below (dQI g r0 m) (([.ref (dad g p0), .int p1] : List Value).toArray) s 0 0 (dA g)) (F0 mth 2 ls [])) q) (K := fun q => match q with | .inl q => ∀ (H : Heap) (locs : List Loc) (ls : Array Slot), va_P g.1 vwCl (dws g m) H → va_S (dA g) s.heap H locs → lv_has ls 6 [] → W p l e (headSpec wsX5_isBetterWithTwoChanged (dRm 2 44)).room s mth (([.ref (dad g p0), .int p1] : List Value).toArray) below meth c H locs 0 0 (MQ below (dQI g r0 m) (([.ref (dad g p0), .int p1] : List Value).toArray) s 0 0 (dA g)) (F0 mth 81 ls []) | .inr q => ∀ (H : Heap) (locs : List Loc) (ls : Array Slot), va_P g.1 vwCl (dws g m) H → va_S (dA g) s.heap H locs → lv_has ls 6 [] → W p l e (headSpec wsX5_isBetterWithTwoChanged (dRm 2 44)).room s mth (([.ref (dad g p0), .int p1] : List Value).toArray) below meth c H locs 0 0 (MQ below (dQI g r0 m) (([.ref (dad g p0), .int p1] : List Value).toArray) s 0 0 (dA g)) (F0 mth 95 ls [])) ?_ dFl _ qL1 hqL1 ?_ H locs ls hP hS (lv_sub hl [0, 1, 2] rfl)
  · intro q o h hCL1 hEL1
    obtain ⟨v2, rfl⟩ : ∃ z, z = q := ⟨_, rfl⟩
    have h : fX5_isBetterWithTwoChanged_l2 m p0 p1 v2 = some o := h
    intro H locs ls hP hS hl
    have hP : va_P g.1 vwCl (dws g m) H := hP
    have hl : lv_has ls 6 [(2, .int v2), (0, .ref (dad g p0)), (1, .int p1)] := hl
    unfold fX5_isBetterWithTwoChanged_l2 at h
    refine lv_iload_n S.1 S.2.1 dX5_isBetterWithTwoChanged_2 rfl (lv_at hl 0 rfl) ?_
    refine lv_iload_n S.1 S.2.1 dX5_isBetterWithTwoChanged_3 rfl (lv_at hl 2 rfl) ?_
    refine lv_icmp_ge (tgt := 95) S.1 S.2.1 dX5_isBetterWithTwoChanged_4 (by decide) (fun cq => ?_) (fun cq => ?_)
    · have h := d_t cq h
      obtain rfl := Option.some.inj h
      exact hEL1 _ rfl H locs ls hP hS (lv_sub hl [] rfl)
    · have h := d_f cq h
      refine lv_iload_n S.1 S.2.1 dX5_isBetterWithTwoChanged_7 rfl (lv_at hl 0 rfl) ?_
      refine lv_iconst (v := 1) S.1 S.2.1 dX5_isBetterWithTwoChanged_8 (by decide) ?_
      refine lv_iadd S.1 S.2.1 dX5_isBetterWithTwoChanged_9 ?_
      refine lv_topi (fun v29 ev29 => ?_)
      have h := d_let ev29 h
      refine lv_istore_n (lv' := [(3, .int v29), (2, .int v2), (0, .ref (dad g p0)), (1, .int p1)]) S.1 S.2.1 dX5_isBetterWithTwoChanged_10 rfl hl (by decide) rfl (fun ls hl => ?_)
      obtain ⟨qL30, hqL30, h⟩ := d_b h
      refine d_lp (Hd := fun q => (fun (v31 : _) => ∀ (H : Heap) (locs : List Loc) (ls : Array Slot), va_P g.1 vwCl (dws g m) H → va_S (dA g) s.heap H locs → lv_has ls 6 [(3, .int v31), (2, .int v2), (0, .ref (dad g p0)), (1, .int p1)] → W p l e (headSpec wsX5_isBetterWithTwoChanged (dRm 2 44)).room s mth (([.ref (dad g p0), .int p1] : List Value).toArray) below meth c H locs 0 0 (MQ below (dQI g r0 m) (([.ref (dad g p0), .int p1] : List Value).toArray) s 0 0 (dA g)) (F0 mth 11 ls [])) q) (K := fun q => match q with | .inl q => ∀ (H : Heap) (locs : List Loc) (ls : Array Slot), va_P g.1 vwCl (dws g m) H → va_S (dA g) s.heap H locs → lv_has ls 6 [] → W p l e (headSpec wsX5_isBetterWithTwoChanged (dRm 2 44)).room s mth (([.ref (dad g p0), .int p1] : List Value).toArray) below meth c H locs 0 0 (MQ below (dQI g r0 m) (([.ref (dad g p0), .int p1] : List Value).toArray) s 0 0 (dA g)) (F0 mth 81 ls []) | .inr q => ∀ (H : Heap) (locs : List Loc) (ls : Array Slot), va_P g.1 vwCl (dws g m) H → va_S (dA g) s.heap H locs → lv_has ls 6 [(0, .ref (dad g p0)), (1, .int p1), (2, .int v2)] → W p l e (headSpec wsX5_isBetterWithTwoChanged (dRm 2 44)).room s mth (([.ref (dad g p0), .int p1] : List Value).toArray) below meth c H locs 0 0 (MQ below (dQI g r0 m) (([.ref (dad g p0), .int p1] : List Value).toArray) s 0 0 (dA g)) (F0 mth 89 ls [])) ?_ dFl _ qL30 hqL30 ?_ H locs ls hP hS (lv_sub hl [0, 1, 2, 3] rfl)
      · intro q o h hCL30 hEL30
        obtain ⟨v31, rfl⟩ : ∃ z, z = q := ⟨_, rfl⟩
        have h : fX5_isBetterWithTwoChanged_l11 m p0 p1 v2 v31 = some o := h
        intro H locs ls hP hS hl
        have hP : va_P g.1 vwCl (dws g m) H := hP
        have hl : lv_has ls 6 [(3, .int v31), (2, .int v2), (0, .ref (dad g p0)), (1, .int p1)] := hl
        unfold fX5_isBetterWithTwoChanged_l11 at h
        refine lv_iload_n S.1 S.2.1 dX5_isBetterWithTwoChanged_11 rfl (lv_at hl 0 rfl) ?_
        refine lv_iload_n S.1 S.2.1 dX5_isBetterWithTwoChanged_12 rfl (lv_at hl 3 rfl) ?_
        refine lv_icmp_ge (tgt := 89) S.1 S.2.1 dX5_isBetterWithTwoChanged_13 (by decide) (fun cq => ?_) (fun cq => ?_)
        · have h := d_t cq h
          obtain rfl := Option.some.inj h
          exact hEL30 _ rfl H locs ls hP hS (lv_sub hl [2, 3, 1] rfl)
        · have h := d_f cq h
          refine lv_aload_n S.1 S.2.1 dX5_isBetterWithTwoChanged_16 rfl (lv_at hl 2 rfl) ?_
          refine dgf5_0 S in5 hE hP k0 (S.2.2.2.2 (.fieldLink RX5 12 "DrillField$Part" "starts" "LDrillField$Spots;") (List.mem_of_getElem? (i := 1) rfl)) dX5_isBetterWithTwoChanged_17 ?_
          refine lv_iload_n S.1 S.2.1 dX5_isBetterWithTwoChanged_20 rfl (lv_at hl 1 rfl) ?_
          refine lv_aload_n S.1 S.2.1 dX5_isBetterWithTwoChanged_21 rfl (lv_at hl 2 rfl) ?_
          refine dgf5_1 S in5 hE hP k0 (S.2.2.2.2 (.fieldLink RX5 18 "DrillField$Part" "ends" "LDrillField$Spots;") (List.mem_of_getElem? (i := 2) rfl)) dX5_isBetterWithTwoChanged_22 ?_
          refine lv_iload_n S.1 S.2.1 dX5_isBetterWithTwoChanged_25 rfl (lv_at hl 1 rfl) ?_
          obtain ⟨v44, hc43, h⟩ := d_b h
          refine dri (va_runV (As := [.int v2, .ref (dad g (p0 + 4)), .int v2]) (rest := []) S (kX9_squareTo l g hc43) (cwV 3 S.2.2.2.2 gX5_isBetterWithTwoChanged_X9_squareTo rfl rfl rfl ynX9_squareTo ⟨Nat.le_of_ble_eq_true rfl, Nat.le_of_ble_eq_true rfl⟩) (dpV hE hP hS (ci := 9) rfl (dat10 (dkr6_1 k0))) rfl rfl hl.1 rfl (lv_room (Nat.le_of_ble_eq_true rfl)) dX5_isBetterWithTwoChanged_26 ⟨Nat.le_of_ble_eq_true rfl, Nat.le_of_ble_eq_true rfl⟩) hS (fun H locs hP hS => ?_)
          refine lv_aload_n S.1 S.2.1 dX5_isBetterWithTwoChanged_29 rfl (lv_at hl 2 rfl) ?_
          refine dgf5_0 S in5 hE hP k0 (S.2.2.2.2 (.fieldLink RX5 12 "DrillField$Part" "starts" "LDrillField$Spots;") (List.mem_of_getElem? (i := 1) rfl)) dX5_isBetterWithTwoChanged_30 ?_
          refine lv_iload_n S.1 S.2.1 dX5_isBetterWithTwoChanged_33 rfl (lv_at hl 0 rfl) ?_
          refine lv_aload_n S.1 S.2.1 dX5_isBetterWithTwoChanged_34 rfl (lv_at hl 2 rfl) ?_
          refine dgf5_1 S in5 hE hP k0 (S.2.2.2.2 (.fieldLink RX5 18 "DrillField$Part" "ends" "LDrillField$Spots;") (List.mem_of_getElem? (i := 2) rfl)) dX5_isBetterWithTwoChanged_35 ?_
          refine lv_iload_n S.1 S.2.1 dX5_isBetterWithTwoChanged_38 rfl (lv_at hl 0 rfl) ?_
          obtain ⟨v46, hc45, h⟩ := d_b h
          refine dri (va_runV (As := [.int v31, .ref (dad g (p0 + 4)), .int v31]) (rest := [.int v44]) S (kX9_squareTo l g hc45) (cwV 3 S.2.2.2.2 gX5_isBetterWithTwoChanged_X9_squareTo rfl rfl rfl ynX9_squareTo ⟨Nat.le_of_ble_eq_true rfl, Nat.le_of_ble_eq_true rfl⟩) (dpV hE hP hS (ci := 9) rfl (dat10 (dkr6_1 k0))) rfl rfl hl.1 rfl (lv_room (Nat.le_of_ble_eq_true rfl)) dX5_isBetterWithTwoChanged_39 ⟨Nat.le_of_ble_eq_true rfl, Nat.le_of_ble_eq_true rfl⟩) hS (fun H locs hP hS => ?_)
          refine lv_iadd S.1 S.2.1 dX5_isBetterWithTwoChanged_42 ?_
          refine lv_topi (fun v47 ev47 => ?_)
          have h := d_let ev47 h
          refine lv_istore (lv' := [(4, .int v47), (3, .int v31), (2, .int v2), (0, .ref (dad g p0)), (1, .int p1)]) S.1 S.2.1 dX5_isBetterWithTwoChanged_43 hl (by decide) rfl (fun ls hl => ?_)
          refine lv_aload_n S.1 S.2.1 dX5_isBetterWithTwoChanged_45 rfl (lv_at hl 3 rfl) ?_
          refine dgf5_0 S in5 hE hP k0 (S.2.2.2.2 (.fieldLink RX5 12 "DrillField$Part" "starts" "LDrillField$Spots;") (List.mem_of_getElem? (i := 1) rfl)) dX5_isBetterWithTwoChanged_46 ?_
          refine lv_iload_n S.1 S.2.1 dX5_isBetterWithTwoChanged_49 rfl (lv_at hl 2 rfl) ?_
          refine lv_aload_n S.1 S.2.1 dX5_isBetterWithTwoChanged_50 rfl (lv_at hl 3 rfl) ?_
          refine dgf5_1 S in5 hE hP k0 (S.2.2.2.2 (.fieldLink RX5 18 "DrillField$Part" "ends" "LDrillField$Spots;") (List.mem_of_getElem? (i := 2) rfl)) dX5_isBetterWithTwoChanged_51 ?_
          refine lv_iload_n S.1 S.2.1 dX5_isBetterWithTwoChanged_54 rfl (lv_at hl 1 rfl) ?_
          obtain ⟨v49, hc48, h⟩ := d_b h
          refine dri (va_runV (As := [.int v2, .ref (dad g (p0 + 4)), .int v31]) (rest := []) S (kX9_squareTo l g hc48) (cwV 3 S.2.2.2.2 gX5_isBetterWithTwoChanged_X9_squareTo rfl rfl rfl ynX9_squareTo ⟨Nat.le_of_ble_eq_true rfl, Nat.le_of_ble_eq_true rfl⟩) (dpV hE hP hS (ci := 9) rfl (dat10 (dkr6_1 k0))) rfl rfl hl.1 rfl (lv_room (Nat.le_of_ble_eq_true rfl)) dX5_isBetterWithTwoChanged_55 ⟨Nat.le_of_ble_eq_true rfl, Nat.le_of_ble_eq_true rfl⟩) hS (fun H locs hP hS => ?_)
          refine lv_aload_n S.1 S.2.1 dX5_isBetterWithTwoChanged_58 rfl (lv_at hl 3 rfl) ?_
          refine dgf5_0 S in5 hE hP k0 (S.2.2.2.2 (.fieldLink RX5 12 "DrillField$Part" "starts" "LDrillField$Spots;") (List.mem_of_getElem? (i := 1) rfl)) dX5_isBetterWithTwoChanged_59 ?_
          refine lv_iload_n S.1 S.2.1 dX5_isBetterWithTwoChanged_62 rfl (lv_at hl 1 rfl) ?_
          refine lv_aload_n S.1 S.2.1 dX5_isBetterWithTwoChanged_63 rfl (lv_at hl 3 rfl) ?_
          refine dgf5_1 S in5 hE hP k0 (S.2.2.2.2 (.fieldLink RX5 18 "DrillField$Part" "ends" "LDrillField$Spots;") (List.mem_of_getElem? (i := 2) rfl)) dX5_isBetterWithTwoChanged_64 ?_
          refine lv_iload_n S.1 S.2.1 dX5_isBetterWithTwoChanged_67 rfl (lv_at hl 2 rfl) ?_
          obtain ⟨v51, hc50, h⟩ := d_b h
          refine dri (va_runV (As := [.int v31, .ref (dad g (p0 + 4)), .int v2]) (rest := [.int v49]) S (kX9_squareTo l g hc50) (cwV 3 S.2.2.2.2 gX5_isBetterWithTwoChanged_X9_squareTo rfl rfl rfl ynX9_squareTo ⟨Nat.le_of_ble_eq_true rfl, Nat.le_of_ble_eq_true rfl⟩) (dpV hE hP hS (ci := 9) rfl (dat10 (dkr6_1 k0))) rfl rfl hl.1 rfl (lv_room (Nat.le_of_ble_eq_true rfl)) dX5_isBetterWithTwoChanged_68 ⟨Nat.le_of_ble_eq_true rfl, Nat.le_of_ble_eq_true rfl⟩) hS (fun H locs hP hS => ?_)
          refine lv_iadd S.1 S.2.1 dX5_isBetterWithTwoChanged_71 ?_
          refine lv_topi (fun v52 ev52 => ?_)
          have h := d_let ev52 h
          refine lv_istore (lv' := [(5, .int v52), (4, .int v47), (3, .int v31), (2, .int v2), (0, .ref (dad g p0)), (1, .int p1)]) S.1 S.2.1 dX5_isBetterWithTwoChanged_72 hl (by decide) rfl (fun ls hl => ?_)
          refine lv_iload S.1 S.2.1 dX5_isBetterWithTwoChanged_74 (lv_at hl 0 rfl) ?_
          refine lv_iload S.1 S.2.1 dX5_isBetterWithTwoChanged_76 (lv_at hl 1 rfl) ?_
          refine lv_icmp_ge (tgt := 83) S.1 S.2.1 dX5_isBetterWithTwoChanged_78 (by decide) (fun cq => ?_) (fun cq => ?_)
          · have h := d_t cq h
            obtain ⟨v53, ev53⟩ : ∃ z : Int32, z = v31 + 1 := ⟨_, rfl⟩
            have h := d_let ev53 h
            refine lv_iinc (v := v53) (lv' := [(3, .int v53), (5, .int v52), (4, .int v47), (2, .int v2), (0, .ref (dad g p0)), (1, .int p1)]) S.1 S.2.1 dX5_isBetterWithTwoChanged_83 hl (k := 2) rfl (by rw [ev53]; rfl) (by decide) rfl (fun ls hl => ?_)
            refine lv_goto (tgt := 11) S.1 S.2.1 dX5_isBetterWithTwoChanged_86 (by decide) ?_
            obtain rfl := Option.some.inj h
            exact hCL30 _ rfl H locs ls hP hS (lv_sub hl [0, 3, 4, 5] rfl)
          · have h := d_f cq h
            obtain rfl := Option.some.inj h
            exact hEL30 _ rfl H locs ls hP hS (lv_sub hl [] rfl)
      · rcases qL30 with qL30a | qL30b
        · have h := d_s1 h
          intro H locs ls hP hS hl
          have hP : va_P g.1 vwCl (dws g m) H := hP
          have hl : lv_has ls 6 [] := hl
          obtain rfl := Option.some.inj h
          exact hEL1 _ rfl H locs ls hP hS (lv_sub hl [] rfl)
        · have h := d_s2 h
          intro H locs ls hP hS hl
          have hP : va_P g.1 vwCl (dws g m) H := hP
          have hl : lv_has ls 6 [(0, .ref (dad g p0)), (1, .int p1), (2, .int v2)] := hl
          obtain ⟨v54, ev54⟩ : ∃ z : Int32, z = v2 + 1 := ⟨_, rfl⟩
          have h := d_let ev54 h
          refine lv_iinc (v := v54) (lv' := [(2, .int v54), (0, .ref (dad g p0)), (1, .int p1)]) S.1 S.2.1 dX5_isBetterWithTwoChanged_89 hl (k := 2) rfl (by rw [ev54]; rfl) (by decide) rfl (fun ls hl => ?_)
          refine lv_goto (tgt := 2) S.1 S.2.1 dX5_isBetterWithTwoChanged_92 (by decide) ?_
          obtain rfl := Option.some.inj h
          exact hCL1 _ rfl H locs ls hP hS (lv_sub hl [0, 1, 2] rfl)
  · rcases qL1 with qL1a | qL1b
    · have h := d_s1 h
      intro H locs ls hP hS hl
      have hP : va_P g.1 vwCl (dws g m) H := hP
      have hl : lv_has ls 6 [] := hl
      refine lv_iconst (v := 1) S.1 S.2.1 dX5_isBetterWithTwoChanged_81 (by decide) ?_
      obtain rfl := Option.some.inj h
      exact dti S hr hlk hE hP hS rfl dX5_isBetterWithTwoChanged_82
    · have h := d_s2 h
      intro H locs ls hP hS hl
      have hP : va_P g.1 vwCl (dws g m) H := hP
      have hl : lv_has ls 6 [] := hl
      refine lv_iconst (v := 0) S.1 S.2.1 dX5_isBetterWithTwoChanged_95 (by decide) ?_
      obtain rfl := Option.some.inj h
      exact dti S hr hlk hE hP hS rfl dX5_isBetterWithTwoChanged_96
theorem dX5_isLeast_0 : decode cX5_isLeast 0 = .ok (.aload_n 0, 1) := by decide +kernel
theorem dX5_isLeast_1 : decode cX5_isLeast 1 = .ok (.getfield 35, 3) := by decide +kernel
theorem dX5_isLeast_4 : decode cX5_isLeast 4 = .ok (.ireturn, 1) := by decide +kernel
def fX5_isLeast (m : dM) (p0 : Nat) : Option Int32 := dg (dkg p0 6) (dg (dB (m.1 p0 6)) (some (m.1 p0 6)))
set_option maxHeartbeats 4000000 in
set_option maxRecDepth 100000 in
theorem kX5_isLeast (l : Launch) (g : dG) {m : dM} {p0 : Nat} {r0 : Int32} (h : fX5_isLeast m p0 = some r0) : dMet l g yX5_isLeast wsX5_isLeast (dRm 0 0) [.ref (dad g p0)] m (dQI g r0 m) := by
  refine dof (cc := cX5_isLeast) (maxL := 1) (ret := (some .boolean)) _ (plainFor_of_name (by decide)) rfl (Nat.le_of_ble_eq_true rfl) ?_
  intro p e s mth below meth c S hr hlk hE H ls hP hS hl
  have S : CallFix p mth c cX5_isLeast 1 s _ wsX5_isLeast RX5 := S
  have hl : lv_has ls 1 [(0, .ref (dad g p0))] := hl
  obtain ⟨locs, hlocs⟩ : ∃ z : List Loc, z = [] := ⟨_, rfl⟩
  rw [← hlocs] at hS ⊢
  have in5 : ∀ w ∈ wsX50, w ∈ wsX5_isLeast := by decide +kernel
  unfold fX5_isLeast at h
  obtain ⟨k0, h⟩ := d_g h
  have k0 := d_k k0
  refine lv_aload_n S.1 S.2.1 dX5_isLeast_0 rfl (lv_at hl 0 rfl) ?_
  refine dgf5_6 S in5 hE hP k0 (S.2.2.2.2 (.fieldLink RX5 35 "DrillField$Part" "isLeast" "Z") (List.mem_of_getElem? (i := 1) rfl)) dX5_isLeast_1 ?_
  obtain ⟨hb, h⟩ := d_g h
  obtain rfl := Option.some.inj h
  exact dti S hr hlk hE hP hS (dB_nar2 hb) dX5_isLeast_4
set_option maxRecDepth 20000 in
theorem ggX5_placeOf_X11_isInRow : GoodIn wsX5_placeOf wsX11_isInRow := goodIn_r _ [4] (by decide +kernel) (by decide +kernel)
set_option maxRecDepth 20000 in
theorem gX5_placeOf_X11_isInRow_n39 : GoodIn wsX5_placeOf (wsX11_isInRow) := ggX5_placeOf_X11_isInRow
theorem dX5_placeOf_0 : decode cX5_placeOf 0 = .ok (.iload_n 1, 1) := by decide +kernel
theorem dX5_placeOf_1 : decode cX5_placeOf 1 = .ok (.invokestatic 39, 3) := by decide +kernel
theorem dX5_placeOf_4 : decode cX5_placeOf 4 = .ok (.ifCond .eq 12, 3) := by decide +kernel
theorem dX5_placeOf_7 : decode cX5_placeOf 7 = .ok (.aload_n 0, 1) := by decide +kernel
theorem dX5_placeOf_8 : decode cX5_placeOf 8 = .ok (.getfield 21, 3) := by decide +kernel
theorem dX5_placeOf_11 : decode cX5_placeOf 11 = .ok (.iload_n 1, 1) := by decide +kernel
theorem dX5_placeOf_12 : decode cX5_placeOf 12 = .ok (.iaload, 1) := by decide +kernel
theorem dX5_placeOf_13 : decode cX5_placeOf 13 = .ok (.goto 4, 3) := by decide +kernel
theorem dX5_placeOf_16 : decode cX5_placeOf 16 = .ok (.iconst (-1), 1) := by decide +kernel
theorem dX5_placeOf_17 : decode cX5_placeOf 17 = .ok (.ireturn, 1) := by decide +kernel
def fX5_placeOf (m : dM) (p0 : Nat) (p1 : Int32) : Option Int32 := dg (dkg p0 6) ((fX11_isInRow m p1).bind (fun v2 => if v2 = 0 then some (-1) else dg (dIx p1 (dL (p0 + 7))) (some (m.1 (p0 + 7) (Int32.toNatClampNeg (p1))))))
set_option maxHeartbeats 4000000 in
set_option maxRecDepth 100000 in
theorem kX5_placeOf (l : Launch) (g : dG) {m : dM} {p0 : Nat} {p1 : Int32} {r0 : Int32} (h : fX5_placeOf m p0 p1 = some r0) : dMet l g yX5_placeOf wsX5_placeOf (dRm 1 20) [.ref (dad g p0), .int p1] m (dQI g r0 m) := by
  refine dof (cc := cX5_placeOf) (maxL := 2) (ret := (some .int)) _ (plainFor_of_name (by decide)) rfl (Nat.le_of_ble_eq_true rfl) ?_
  intro p e s mth below meth c S hr hlk hE H ls hP hS hl
  have S : CallFix p mth c cX5_placeOf 2 s _ wsX5_placeOf RX5 := S
  have hl : lv_has ls 2 [(0, .ref (dad g p0)), (1, .int p1)] := hl
  obtain ⟨locs, hlocs⟩ : ∃ z : List Loc, z = [] := ⟨_, rfl⟩
  rw [← hlocs] at hS ⊢
  have in5 : ∀ w ∈ wsX50, w ∈ wsX5_placeOf := by decide +kernel
  unfold fX5_placeOf at h
  obtain ⟨k0, h⟩ := d_g h
  have k0 := d_k k0
  refine lv_iload_n S.1 S.2.1 dX5_placeOf_0 rfl (lv_at hl 1 rfl) ?_
  obtain ⟨v2, hc1, h⟩ := d_b h
  refine dri (va_runSN (As := [.int p1]) (rest := []) S (kX11_isInRow l g hc1) ⟨va_cnB 1 S.2.2.2.2 gX5_placeOf_X11_isInRow_n39 rfl rfl rfl (dnq_RX5_39 hE) (S.2.2.2.2 (.initialized RX11) (List.mem_of_getElem? (i := 3) rfl)) ynX11_isInRow ⟨Nat.le_of_ble_eq_true rfl, Nat.le_of_ble_eq_true rfl⟩, S.2.2.2.2 (.static yX11_isInRow) (List.mem_of_getElem? (i := 2) rfl), trivial⟩ (dpS hE hP hS) rfl rfl hl.1 rfl (lv_room (Nat.le_of_ble_eq_true rfl)) dX5_placeOf_1 ⟨Nat.le_of_ble_eq_true rfl, Nat.le_of_ble_eq_true rfl⟩) hS (fun H locs hP hS => ?_)
  refine lv_if_eq (tgt := 16) S.1 S.2.1 dX5_placeOf_4 (by decide) (fun cq => ?_) (fun cq => ?_)
  · have h := d_t cq h
    refine lv_iconst (v := (-1)) S.1 S.2.1 dX5_placeOf_16 (by decide) ?_
    obtain rfl := Option.some.inj h
    exact dti S hr hlk hE hP hS rfl dX5_placeOf_17
  · have h := d_f cq h
    refine lv_aload_n S.1 S.2.1 dX5_placeOf_7 rfl (lv_at hl 0 rfl) ?_
    refine dgf5_2 S in5 hE hP k0 (S.2.2.2.2 (.fieldLink RX5 21 "DrillField$Part" "places" "[I") (List.mem_of_getElem? (i := 1) rfl)) dX5_placeOf_8 ?_
    refine lv_iload_n S.1 S.2.1 dX5_placeOf_11 rfl (lv_at hl 1 rfl) ?_
    obtain ⟨hi, h⟩ := d_g h
    refine d_iald S hE hP (dkr6_7 k0) hi dX5_placeOf_12 ?_
    refine lv_goto (tgt := 17) S.1 S.2.1 dX5_placeOf_13 (by decide) ?_
    obtain rfl := Option.some.inj h
    exact dti S hr hlk hE hP hS rfl dX5_placeOf_17
theorem dX5_set_0 : decode cX5_set 0 = .ok (.aload_n 0, 1) := by decide +kernel
theorem dX5_set_1 : decode cX5_set 1 = .ok (.getfield 32, 3) := by decide +kernel
theorem dX5_set_4 : decode cX5_set 4 = .ok (.ireturn, 1) := by decide +kernel
def fX5_set (m : dM) (p0 : Nat) : Option Int32 := dg (dkg p0 6) (some (m.1 p0 3))
set_option maxHeartbeats 4000000 in
set_option maxRecDepth 100000 in
theorem kX5_set (l : Launch) (g : dG) {m : dM} {p0 : Nat} {r0 : Int32} (h : fX5_set m p0 = some r0) : dMet l g yX5_set wsX5_set (dRm 0 0) [.ref (dad g p0)] m (dQI g r0 m) := by
  refine dof (cc := cX5_set) (maxL := 1) (ret := (some .int)) _ (plainFor_of_name (by decide)) rfl (Nat.le_of_ble_eq_true rfl) ?_
  intro p e s mth below meth c S hr hlk hE H ls hP hS hl
  have S : CallFix p mth c cX5_set 1 s _ wsX5_set RX5 := S
  have hl : lv_has ls 1 [(0, .ref (dad g p0))] := hl
  obtain ⟨locs, hlocs⟩ : ∃ z : List Loc, z = [] := ⟨_, rfl⟩
  rw [← hlocs] at hS ⊢
  have in5 : ∀ w ∈ wsX50, w ∈ wsX5_set := by decide +kernel
  unfold fX5_set at h
  obtain ⟨k0, h⟩ := d_g h
  have k0 := d_k k0
  refine lv_aload_n S.1 S.2.1 dX5_set_0 rfl (lv_at hl 0 rfl) ?_
  refine dgf5_3 S in5 hE hP k0 (S.2.2.2.2 (.fieldLink RX5 32 "DrillField$Part" "set" "I") (List.mem_of_getElem? (i := 1) rfl)) dX5_set_1 ?_
  obtain rfl := Option.some.inj h
  exact dti S hr hlk hE hP hS rfl dX5_set_4
set_option maxRecDepth 20000 in
theorem ggX5_squaresOfWays_X9_squareTo : GoodIn wsX5_squaresOfWays wsX9_squareTo := goodIn_r _ [7, 8, 9, 10, 11, 12, 13, 14, 22, 23] (by decide +kernel) (by decide +kernel)
set_option maxRecDepth 20000 in
theorem gX5_squaresOfWays_X9_squareTo : GoodIn wsX5_squaresOfWays (wsV RX5 64 RX9 yX9_squareTo wsX9_squareTo) := goodIn_app (goodIn_of _ (by decide +kernel)) ggX5_squaresOfWays_X9_squareTo
theorem dX5_squaresOfWays_0 : decode cX5_squaresOfWays 0 = .ok (.lconst 0, 1) := by decide +kernel
theorem dX5_squaresOfWays_1 : decode cX5_squaresOfWays 1 = .ok (.lstore_n 2, 1) := by decide +kernel
theorem dX5_squaresOfWays_2 : decode cX5_squaresOfWays 2 = .ok (.iconst 0, 1) := by decide +kernel
theorem dX5_squaresOfWays_3 : decode cX5_squaresOfWays 3 = .ok (.istore 4, 2) := by decide +kernel
theorem dX5_squaresOfWays_5 : decode cX5_squaresOfWays 5 = .ok (.iload 4, 2) := by decide +kernel
theorem dX5_squaresOfWays_7 : decode cX5_squaresOfWays 7 = .ok (.iload_n 1, 1) := by decide +kernel
theorem dX5_squaresOfWays_8 : decode cX5_squaresOfWays 8 = .ok (.if_icmp .ge 28, 3) := by decide +kernel
theorem dX5_squaresOfWays_11 : decode cX5_squaresOfWays 11 = .ok (.lload_n 2, 1) := by decide +kernel
theorem dX5_squaresOfWays_12 : decode cX5_squaresOfWays 12 = .ok (.aload_n 0, 1) := by decide +kernel
theorem dX5_squaresOfWays_13 : decode cX5_squaresOfWays 13 = .ok (.getfield 12, 3) := by decide +kernel
theorem dX5_squaresOfWays_16 : decode cX5_squaresOfWays 16 = .ok (.iload 4, 2) := by decide +kernel
theorem dX5_squaresOfWays_18 : decode cX5_squaresOfWays 18 = .ok (.aload_n 0, 1) := by decide +kernel
theorem dX5_squaresOfWays_19 : decode cX5_squaresOfWays 19 = .ok (.getfield 18, 3) := by decide +kernel
theorem dX5_squaresOfWays_22 : decode cX5_squaresOfWays 22 = .ok (.iload 4, 2) := by decide +kernel
theorem dX5_squaresOfWays_24 : decode cX5_squaresOfWays 24 = .ok (.invokevirtual 64, 3) := by decide +kernel
theorem dX5_squaresOfWays_27 : decode cX5_squaresOfWays 27 = .ok (.i2l, 1) := by decide +kernel
theorem dX5_squaresOfWays_28 : decode cX5_squaresOfWays 28 = .ok (.ladd, 1) := by decide +kernel
theorem dX5_squaresOfWays_29 : decode cX5_squaresOfWays 29 = .ok (.lstore_n 2, 1) := by decide +kernel
theorem dX5_squaresOfWays_30 : decode cX5_squaresOfWays 30 = .ok (.iinc 4 1, 3) := by decide +kernel
theorem dX5_squaresOfWays_33 : decode cX5_squaresOfWays 33 = .ok (.goto (-28), 3) := by decide +kernel
theorem dX5_squaresOfWays_36 : decode cX5_squaresOfWays 36 = .ok (.lload_n 2, 1) := by decide +kernel
theorem dX5_squaresOfWays_37 : decode cX5_squaresOfWays 37 = .ok (.lreturn, 1) := by decide +kernel
def fX5_squaresOfWays_l5 (m : dM) (p0 : Nat) (p1 : Int32) (v2 : Int32) (v3 : Int64) : Option ((Int32 × Int64) ⊕ Int64) := if p1 ≤ v2 then some (.inr v3) else (fX9_squareTo m (p0 + 1) v2 (p0 + 4) v2).bind (fun v9 => dlet (v3 + (Int32.toInt64 v9) : Int64) (fun v10 => dlet (v2 + 1 : Int32) (fun v11 => some (.inl (v11, v10)))))
def fX5_squaresOfWays (m : dM) (p0 : Nat) (p1 : Int32) : Option Int64 := dg (dkg p0 6) ((dlp (fun q => dP2 q (fun v2 v3 => fX5_squaresOfWays_l5 m p0 p1 v2 v3)) dFl (0, 0)).bind (fun q => dP1 q (fun v12 => some v12)))
set_option maxHeartbeats 4000000 in
set_option maxRecDepth 100000 in
theorem kX5_squaresOfWays (l : Launch) (g : dG) {m : dM} {p0 : Nat} {p1 : Int32} {r0 : Int64} (h : fX5_squaresOfWays m p0 p1 = some r0) : dMet l g yX5_squaresOfWays wsX5_squaresOfWays (dRm 2 44) [.ref (dad g p0), .int p1] m (dQJ g r0 m) := by
  refine dof (cc := cX5_squaresOfWays) (maxL := 5) (ret := (some .long)) _ (plainFor_of_name (by decide)) rfl (Nat.le_of_ble_eq_true rfl) ?_
  intro p e s mth below meth c S hr hlk hE H ls hP hS hl
  have S : CallFix p mth c cX5_squaresOfWays 5 s _ wsX5_squaresOfWays RX5 := S
  have hl : lv_has ls 5 [(0, .ref (dad g p0)), (1, .int p1)] := hl
  obtain ⟨locs, hlocs⟩ : ∃ z : List Loc, z = [] := ⟨_, rfl⟩
  rw [← hlocs] at hS ⊢
  have in5 : ∀ w ∈ wsX50, w ∈ wsX5_squaresOfWays := by decide +kernel
  unfold fX5_squaresOfWays at h
  obtain ⟨k0, h⟩ := d_g h
  have k0 := d_k k0
  refine lv_lconst (v := 0) S.1 S.2.1 dX5_squaresOfWays_0 (by decide) ?_
  refine lv_lstore_n (lv' := [(2, .long 0), (0, .ref (dad g p0)), (1, .int p1)]) S.1 S.2.1 dX5_squaresOfWays_1 rfl hl (by decide) rfl (fun ls hl => ?_)
  refine lv_iconst (v := 0) S.1 S.2.1 dX5_squaresOfWays_2 (by decide) ?_
  refine lv_istore (lv' := [(4, .int 0), (2, .long 0), (0, .ref (dad g p0)), (1, .int p1)]) S.1 S.2.1 dX5_squaresOfWays_3 hl (by decide) rfl (fun ls hl => ?_)
  obtain ⟨qL1, hqL1, h⟩ := d_b h
  refine d_lp (Hd := fun q => match q with | (v2, v3) => ∀ (H : Heap) (locs : List Loc) (ls : Array Slot), va_P g.1 vwCl (dws g m) H → va_S (dA g) s.heap H locs → lv_has ls 5 [(4, .int v2), (2, .long v3), (0, .ref (dad g p0)), (1, .int p1)] → W p l e (headSpec wsX5_squaresOfWays (dRm 2 44)).room s mth (([.ref (dad g p0), .int p1] : List Value).toArray) below meth c H locs 0 0 (MQ below (dQJ g r0 m) (([.ref (dad g p0), .int p1] : List Value).toArray) s 0 0 (dA g)) (F0 mth 5 ls [])) (K := fun q => (fun (v12 : _) => ∀ (H : Heap) (locs : List Loc) (ls : Array Slot), va_P g.1 vwCl (dws g m) H → va_S (dA g) s.heap H locs → lv_has ls 5 [(2, .long v12)] → W p l e (headSpec wsX5_squaresOfWays (dRm 2 44)).room s mth (([.ref (dad g p0), .int p1] : List Value).toArray) below meth c H locs 0 0 (MQ below (dQJ g r0 m) (([.ref (dad g p0), .int p1] : List Value).toArray) s 0 0 (dA g)) (F0 mth 36 ls [])) q) ?_ dFl _ qL1 hqL1 ?_ H locs ls hP hS (lv_sub hl [0, 1, 2, 3] rfl)
  · intro q o h hCL1 hEL1
    obtain ⟨v2, v3⟩ := q
    have h : fX5_squaresOfWays_l5 m p0 p1 v2 v3 = some o := h
    intro H locs ls hP hS hl
    have hP : va_P g.1 vwCl (dws g m) H := hP
    have hl : lv_has ls 5 [(4, .int v2), (2, .long v3), (0, .ref (dad g p0)), (1, .int p1)] := hl
    unfold fX5_squaresOfWays_l5 at h
    refine lv_iload S.1 S.2.1 dX5_squaresOfWays_5 (lv_at hl 0 rfl) ?_
    refine lv_iload_n S.1 S.2.1 dX5_squaresOfWays_7 rfl (lv_at hl 3 rfl) ?_
    refine lv_icmp_ge (tgt := 36) S.1 S.2.1 dX5_squaresOfWays_8 (by decide) (fun cq => ?_) (fun cq => ?_)
    · have h := d_t cq h
      obtain rfl := Option.some.inj h
      exact hEL1 _ rfl H locs ls hP hS (lv_sub hl [1] rfl)
    · have h := d_f cq h
      refine lv_lload_n S.1 S.2.1 dX5_squaresOfWays_11 rfl (lv_at hl 1 rfl) ?_
      refine lv_aload_n S.1 S.2.1 dX5_squaresOfWays_12 rfl (lv_at hl 2 rfl) ?_
      refine dgf5_0 S in5 hE hP k0 (S.2.2.2.2 (.fieldLink RX5 12 "DrillField$Part" "starts" "LDrillField$Spots;") (List.mem_of_getElem? (i := 1) rfl)) dX5_squaresOfWays_13 ?_
      refine lv_iload S.1 S.2.1 dX5_squaresOfWays_16 (lv_at hl 0 rfl) ?_
      refine lv_aload_n S.1 S.2.1 dX5_squaresOfWays_18 rfl (lv_at hl 2 rfl) ?_
      refine dgf5_1 S in5 hE hP k0 (S.2.2.2.2 (.fieldLink RX5 18 "DrillField$Part" "ends" "LDrillField$Spots;") (List.mem_of_getElem? (i := 2) rfl)) dX5_squaresOfWays_19 ?_
      refine lv_iload S.1 S.2.1 dX5_squaresOfWays_22 (lv_at hl 0 rfl) ?_
      obtain ⟨v9, hc8, h⟩ := d_b h
      refine dri (va_runV (As := [.int v2, .ref (dad g (p0 + 4)), .int v2]) (rest := [.long v3]) S (kX9_squareTo l g hc8) (cwV 3 S.2.2.2.2 gX5_squaresOfWays_X9_squareTo rfl rfl rfl ynX9_squareTo ⟨Nat.le_of_ble_eq_true rfl, Nat.le_of_ble_eq_true rfl⟩) (dpV hE hP hS (ci := 9) rfl (dat10 (dkr6_1 k0))) rfl rfl hl.1 rfl (lv_room (Nat.le_of_ble_eq_true rfl)) dX5_squaresOfWays_24 ⟨Nat.le_of_ble_eq_true rfl, Nat.le_of_ble_eq_true rfl⟩) hS (fun H locs hP hS => ?_)
      refine lv_i2l S.1 S.2.1 dX5_squaresOfWays_27 rfl ?_
      refine lv_ladd S.1 S.2.1 dX5_squaresOfWays_28 ?_
      refine lv_topl (fun v10 ev10 => ?_)
      have h := d_let ev10 h
      refine lv_lstore_n (lv' := [(2, .long v10), (4, .int v2), (0, .ref (dad g p0)), (1, .int p1)]) S.1 S.2.1 dX5_squaresOfWays_29 rfl hl (by decide) rfl (fun ls hl => ?_)
      obtain ⟨v11, ev11⟩ : ∃ z : Int32, z = v2 + 1 := ⟨_, rfl⟩
      have h := d_let ev11 h
      refine lv_iinc (v := v11) (lv' := [(4, .int v11), (2, .long v10), (0, .ref (dad g p0)), (1, .int p1)]) S.1 S.2.1 dX5_squaresOfWays_30 hl (k := 1) rfl (by rw [ev11]; rfl) (by decide) rfl (fun ls hl => ?_)
      refine lv_goto (tgt := 5) S.1 S.2.1 dX5_squaresOfWays_33 (by decide) ?_
      obtain rfl := Option.some.inj h
      exact hCL1 _ rfl H locs ls hP hS (lv_sub hl [0, 1, 2, 3] rfl)
  · obtain ⟨v12, rfl⟩ : ∃ z, z = qL1 := ⟨_, rfl⟩
    have h := d_p1 h
    intro H locs ls hP hS hl
    have hP : va_P g.1 vwCl (dws g m) H := hP
    have hl : lv_has ls 5 [(2, .long v12)] := hl
    refine lv_lload_n S.1 S.2.1 dX5_squaresOfWays_36 rfl (lv_at hl 0 rfl) ?_
    obtain rfl := Option.some.inj h
    exact dtj S hr hlk hE hP hS dX5_squaresOfWays_37
set_option maxRecDepth 20000 in
theorem ggX5_xOf_X9_x : GoodIn wsX5_xOf wsX9_x := goodIn_r _ [8, 9, 10, 11, 12, 26, 27] (by decide +kernel) (by decide +kernel)
set_option maxRecDepth 20000 in
theorem gX5_xOf_X9_x : GoodIn wsX5_xOf (wsV RX5 43 RX9 yX9_x wsX9_x) := goodIn_app (goodIn_of _ (by decide +kernel)) ggX5_xOf_X9_x
set_option maxRecDepth 20000 in
theorem ggX5_xOf_X11_downBy : GoodIn wsX5_xOf wsX11_downBy := goodIn_r _ [14, 15, 16, 17, 18] (by decide +kernel) (by decide +kernel)
set_option maxRecDepth 20000 in
theorem gX5_xOf_X11_downBy_n54 : GoodIn wsX5_xOf (wsX11_downBy) := ggX5_xOf_X11_downBy
theorem dX5_xOf_0 : decode cX5_xOf 0 = .ok (.aload_n 0, 1) := by decide +kernel
theorem dX5_xOf_1 : decode cX5_xOf 1 = .ok (.getfield 12, 3) := by decide +kernel
theorem dX5_xOf_4 : decode cX5_xOf 4 = .ok (.iload_n 1, 1) := by decide +kernel
theorem dX5_xOf_5 : decode cX5_xOf 5 = .ok (.invokevirtual 43, 3) := by decide +kernel
theorem dX5_xOf_8 : decode cX5_xOf 8 = .ok (.iload_n 2, 1) := by decide +kernel
theorem dX5_xOf_9 : decode cX5_xOf 9 = .ok (.aload_n 0, 1) := by decide +kernel
theorem dX5_xOf_10 : decode cX5_xOf 10 = .ok (.getfield 18, 3) := by decide +kernel
theorem dX5_xOf_13 : decode cX5_xOf 13 = .ok (.iload_n 1, 1) := by decide +kernel
theorem dX5_xOf_14 : decode cX5_xOf 14 = .ok (.invokevirtual 43, 3) := by decide +kernel
theorem dX5_xOf_17 : decode cX5_xOf 17 = .ok (.aload_n 0, 1) := by decide +kernel
theorem dX5_xOf_18 : decode cX5_xOf 18 = .ok (.getfield 12, 3) := by decide +kernel
theorem dX5_xOf_21 : decode cX5_xOf 21 = .ok (.iload_n 1, 1) := by decide +kernel
theorem dX5_xOf_22 : decode cX5_xOf 22 = .ok (.invokevirtual 43, 3) := by decide +kernel
theorem dX5_xOf_25 : decode cX5_xOf 25 = .ok (.isub, 1) := by decide +kernel
theorem dX5_xOf_26 : decode cX5_xOf 26 = .ok (.imul, 1) := by decide +kernel
theorem dX5_xOf_27 : decode cX5_xOf 27 = .ok (.aload_n 0, 1) := by decide +kernel
theorem dX5_xOf_28 : decode cX5_xOf 28 = .ok (.getfield 25, 3) := by decide +kernel
theorem dX5_xOf_31 : decode cX5_xOf 31 = .ok (.invokestatic 54, 3) := by decide +kernel
theorem dX5_xOf_34 : decode cX5_xOf 34 = .ok (.iadd, 1) := by decide +kernel
theorem dX5_xOf_35 : decode cX5_xOf 35 = .ok (.ireturn, 1) := by decide +kernel
def fX5_xOf (m : dM) (p0 : Nat) (p1 : Int32) (p2 : Int32) : Option Int32 := dg (dkg p0 6) ((fX9_x m (p0 + 1) p1).bind (fun v2 => (fX9_x m (p0 + 4) p1).bind (fun v4 => (fX9_x m (p0 + 1) p1).bind (fun v6 => (fX11_downBy m (p2 * (v4 - v6)) (m.1 p0 4)).bind (fun v8 => some (v2 + v8))))))
set_option maxHeartbeats 4000000 in
set_option maxRecDepth 100000 in
theorem kX5_xOf (l : Launch) (g : dG) {m : dM} {p0 : Nat} {p1 : Int32} {p2 : Int32} {r0 : Int32} (h : fX5_xOf m p0 p1 p2 = some r0) : dMet l g yX5_xOf wsX5_xOf (dRm 2 43) [.ref (dad g p0), .int p1, .int p2] m (dQI g r0 m) := by
  refine dof (cc := cX5_xOf) (maxL := 3) (ret := (some .int)) _ (plainFor_of_name (by decide)) rfl (Nat.le_of_ble_eq_true rfl) ?_
  intro p e s mth below meth c S hr hlk hE H ls hP hS hl
  have S : CallFix p mth c cX5_xOf 3 s _ wsX5_xOf RX5 := S
  have hl : lv_has ls 3 [(0, .ref (dad g p0)), (1, .int p1), (2, .int p2)] := hl
  obtain ⟨locs, hlocs⟩ : ∃ z : List Loc, z = [] := ⟨_, rfl⟩
  rw [← hlocs] at hS ⊢
  have in5 : ∀ w ∈ wsX50, w ∈ wsX5_xOf := by decide +kernel
  unfold fX5_xOf at h
  obtain ⟨k0, h⟩ := d_g h
  have k0 := d_k k0
  refine lv_aload_n S.1 S.2.1 dX5_xOf_0 rfl (lv_at hl 0 rfl) ?_
  refine dgf5_0 S in5 hE hP k0 (S.2.2.2.2 (.fieldLink RX5 12 "DrillField$Part" "starts" "LDrillField$Spots;") (List.mem_of_getElem? (i := 1) rfl)) dX5_xOf_1 ?_
  refine lv_iload_n S.1 S.2.1 dX5_xOf_4 rfl (lv_at hl 1 rfl) ?_
  obtain ⟨v2, hc1, h⟩ := d_b h
  refine dri (va_runV (As := [.int p1]) (rest := []) S (kX9_x l g hc1) (cwV 1 S.2.2.2.2 gX5_xOf_X9_x rfl rfl rfl ynX9_x ⟨Nat.le_of_ble_eq_true rfl, Nat.le_of_ble_eq_true rfl⟩) (dpV hE hP hS (ci := 9) rfl (dat10 (dkr6_1 k0))) rfl rfl hl.1 rfl (lv_room (Nat.le_of_ble_eq_true rfl)) dX5_xOf_5 ⟨Nat.le_of_ble_eq_true rfl, Nat.le_of_ble_eq_true rfl⟩) hS (fun H locs hP hS => ?_)
  refine lv_iload_n S.1 S.2.1 dX5_xOf_8 rfl (lv_at hl 2 rfl) ?_
  refine lv_aload_n S.1 S.2.1 dX5_xOf_9 rfl (lv_at hl 0 rfl) ?_
  refine dgf5_1 S in5 hE hP k0 (S.2.2.2.2 (.fieldLink RX5 18 "DrillField$Part" "ends" "LDrillField$Spots;") (List.mem_of_getElem? (i := 2) rfl)) dX5_xOf_10 ?_
  refine lv_iload_n S.1 S.2.1 dX5_xOf_13 rfl (lv_at hl 1 rfl) ?_
  obtain ⟨v4, hc3, h⟩ := d_b h
  refine dri (va_runV (As := [.int p1]) (rest := [.int p2, .int v2]) S (kX9_x l g hc3) (cwV 1 S.2.2.2.2 gX5_xOf_X9_x rfl rfl rfl ynX9_x ⟨Nat.le_of_ble_eq_true rfl, Nat.le_of_ble_eq_true rfl⟩) (dpV hE hP hS (ci := 9) rfl (dat10 (dkr6_4 k0))) rfl rfl hl.1 rfl (lv_room (Nat.le_of_ble_eq_true rfl)) dX5_xOf_14 ⟨Nat.le_of_ble_eq_true rfl, Nat.le_of_ble_eq_true rfl⟩) hS (fun H locs hP hS => ?_)
  refine lv_aload_n S.1 S.2.1 dX5_xOf_17 rfl (lv_at hl 0 rfl) ?_
  refine dgf5_0 S in5 hE hP k0 (S.2.2.2.2 (.fieldLink RX5 12 "DrillField$Part" "starts" "LDrillField$Spots;") (List.mem_of_getElem? (i := 1) rfl)) dX5_xOf_18 ?_
  refine lv_iload_n S.1 S.2.1 dX5_xOf_21 rfl (lv_at hl 1 rfl) ?_
  obtain ⟨v6, hc5, h⟩ := d_b h
  refine dri (va_runV (As := [.int p1]) (rest := [.int v4, .int p2, .int v2]) S (kX9_x l g hc5) (cwV 1 S.2.2.2.2 gX5_xOf_X9_x rfl rfl rfl ynX9_x ⟨Nat.le_of_ble_eq_true rfl, Nat.le_of_ble_eq_true rfl⟩) (dpV hE hP hS (ci := 9) rfl (dat10 (dkr6_1 k0))) rfl rfl hl.1 rfl (lv_room (Nat.le_of_ble_eq_true rfl)) dX5_xOf_22 ⟨Nat.le_of_ble_eq_true rfl, Nat.le_of_ble_eq_true rfl⟩) hS (fun H locs hP hS => ?_)
  refine lv_isub S.1 S.2.1 dX5_xOf_25 ?_
  refine lv_imul S.1 S.2.1 dX5_xOf_26 ?_
  refine lv_aload_n S.1 S.2.1 dX5_xOf_27 rfl (lv_at hl 0 rfl) ?_
  refine dgf5_4 S in5 hE hP k0 (S.2.2.2.2 (.fieldLink RX5 25 "DrillField$Part" "counts" "I") (List.mem_of_getElem? (i := 3) rfl)) dX5_xOf_28 ?_
  obtain ⟨v8, hc7, h⟩ := d_b h
  refine dri (va_runSN (As := [.int (p2 * (v4 - v6)), .int (m.1 p0 4)]) (rest := [.int v2]) S (kX11_downBy l g hc7) ⟨va_cnB 2 S.2.2.2.2 gX5_xOf_X11_downBy_n54 rfl rfl rfl (dnq_RX5_54 hE) (S.2.2.2.2 (.initialized RX11) (List.mem_of_getElem? (i := 11) rfl)) ynX11_downBy ⟨Nat.le_of_ble_eq_true rfl, Nat.le_of_ble_eq_true rfl⟩, S.2.2.2.2 (.static yX11_downBy) (List.mem_of_getElem? (i := 13) rfl), trivial⟩ (dpS hE hP hS) rfl rfl hl.1 rfl (lv_room (Nat.le_of_ble_eq_true rfl)) dX5_xOf_31 ⟨Nat.le_of_ble_eq_true rfl, Nat.le_of_ble_eq_true rfl⟩) hS (fun H locs hP hS => ?_)
  refine lv_iadd S.1 S.2.1 dX5_xOf_34 ?_
  obtain rfl := Option.some.inj h
  exact dti S hr hlk hE hP hS rfl dX5_xOf_35
set_option maxRecDepth 20000 in
theorem ggX5_yOf_X9_y : GoodIn wsX5_yOf wsX9_y := goodIn_r _ [8, 9, 10, 11, 12, 26, 27] (by decide +kernel) (by decide +kernel)
set_option maxRecDepth 20000 in
theorem gX5_yOf_X9_y : GoodIn wsX5_yOf (wsV RX5 47 RX9 yX9_y wsX9_y) := goodIn_app (goodIn_of _ (by decide +kernel)) ggX5_yOf_X9_y
set_option maxRecDepth 20000 in
theorem ggX5_yOf_X11_downBy : GoodIn wsX5_yOf wsX11_downBy := goodIn_r _ [14, 15, 16, 17, 18] (by decide +kernel) (by decide +kernel)
set_option maxRecDepth 20000 in
theorem gX5_yOf_X11_downBy_n54 : GoodIn wsX5_yOf (wsX11_downBy) := ggX5_yOf_X11_downBy
theorem dX5_yOf_0 : decode cX5_yOf 0 = .ok (.aload_n 0, 1) := by decide +kernel
theorem dX5_yOf_1 : decode cX5_yOf 1 = .ok (.getfield 12, 3) := by decide +kernel
theorem dX5_yOf_4 : decode cX5_yOf 4 = .ok (.iload_n 1, 1) := by decide +kernel
theorem dX5_yOf_5 : decode cX5_yOf 5 = .ok (.invokevirtual 47, 3) := by decide +kernel
theorem dX5_yOf_8 : decode cX5_yOf 8 = .ok (.iload_n 2, 1) := by decide +kernel
theorem dX5_yOf_9 : decode cX5_yOf 9 = .ok (.aload_n 0, 1) := by decide +kernel
theorem dX5_yOf_10 : decode cX5_yOf 10 = .ok (.getfield 18, 3) := by decide +kernel
theorem dX5_yOf_13 : decode cX5_yOf 13 = .ok (.iload_n 1, 1) := by decide +kernel
theorem dX5_yOf_14 : decode cX5_yOf 14 = .ok (.invokevirtual 47, 3) := by decide +kernel
theorem dX5_yOf_17 : decode cX5_yOf 17 = .ok (.aload_n 0, 1) := by decide +kernel
theorem dX5_yOf_18 : decode cX5_yOf 18 = .ok (.getfield 12, 3) := by decide +kernel
theorem dX5_yOf_21 : decode cX5_yOf 21 = .ok (.iload_n 1, 1) := by decide +kernel
theorem dX5_yOf_22 : decode cX5_yOf 22 = .ok (.invokevirtual 47, 3) := by decide +kernel
theorem dX5_yOf_25 : decode cX5_yOf 25 = .ok (.isub, 1) := by decide +kernel
theorem dX5_yOf_26 : decode cX5_yOf 26 = .ok (.imul, 1) := by decide +kernel
theorem dX5_yOf_27 : decode cX5_yOf 27 = .ok (.aload_n 0, 1) := by decide +kernel
theorem dX5_yOf_28 : decode cX5_yOf 28 = .ok (.getfield 25, 3) := by decide +kernel
theorem dX5_yOf_31 : decode cX5_yOf 31 = .ok (.invokestatic 54, 3) := by decide +kernel
theorem dX5_yOf_34 : decode cX5_yOf 34 = .ok (.iadd, 1) := by decide +kernel
theorem dX5_yOf_35 : decode cX5_yOf 35 = .ok (.ireturn, 1) := by decide +kernel
def fX5_yOf (m : dM) (p0 : Nat) (p1 : Int32) (p2 : Int32) : Option Int32 := dg (dkg p0 6) ((fX9_y m (p0 + 1) p1).bind (fun v2 => (fX9_y m (p0 + 4) p1).bind (fun v4 => (fX9_y m (p0 + 1) p1).bind (fun v6 => (fX11_downBy m (p2 * (v4 - v6)) (m.1 p0 4)).bind (fun v8 => some (v2 + v8))))))
set_option maxHeartbeats 4000000 in
set_option maxRecDepth 100000 in
theorem kX5_yOf (l : Launch) (g : dG) {m : dM} {p0 : Nat} {p1 : Int32} {p2 : Int32} {r0 : Int32} (h : fX5_yOf m p0 p1 p2 = some r0) : dMet l g yX5_yOf wsX5_yOf (dRm 2 43) [.ref (dad g p0), .int p1, .int p2] m (dQI g r0 m) := by
  refine dof (cc := cX5_yOf) (maxL := 3) (ret := (some .int)) _ (plainFor_of_name (by decide)) rfl (Nat.le_of_ble_eq_true rfl) ?_
  intro p e s mth below meth c S hr hlk hE H ls hP hS hl
  have S : CallFix p mth c cX5_yOf 3 s _ wsX5_yOf RX5 := S
  have hl : lv_has ls 3 [(0, .ref (dad g p0)), (1, .int p1), (2, .int p2)] := hl
  obtain ⟨locs, hlocs⟩ : ∃ z : List Loc, z = [] := ⟨_, rfl⟩
  rw [← hlocs] at hS ⊢
  have in5 : ∀ w ∈ wsX50, w ∈ wsX5_yOf := by decide +kernel
  unfold fX5_yOf at h
  obtain ⟨k0, h⟩ := d_g h
  have k0 := d_k k0
  refine lv_aload_n S.1 S.2.1 dX5_yOf_0 rfl (lv_at hl 0 rfl) ?_
  refine dgf5_0 S in5 hE hP k0 (S.2.2.2.2 (.fieldLink RX5 12 "DrillField$Part" "starts" "LDrillField$Spots;") (List.mem_of_getElem? (i := 1) rfl)) dX5_yOf_1 ?_
  refine lv_iload_n S.1 S.2.1 dX5_yOf_4 rfl (lv_at hl 1 rfl) ?_
  obtain ⟨v2, hc1, h⟩ := d_b h
  refine dri (va_runV (As := [.int p1]) (rest := []) S (kX9_y l g hc1) (cwV 1 S.2.2.2.2 gX5_yOf_X9_y rfl rfl rfl ynX9_y ⟨Nat.le_of_ble_eq_true rfl, Nat.le_of_ble_eq_true rfl⟩) (dpV hE hP hS (ci := 9) rfl (dat10 (dkr6_1 k0))) rfl rfl hl.1 rfl (lv_room (Nat.le_of_ble_eq_true rfl)) dX5_yOf_5 ⟨Nat.le_of_ble_eq_true rfl, Nat.le_of_ble_eq_true rfl⟩) hS (fun H locs hP hS => ?_)
  refine lv_iload_n S.1 S.2.1 dX5_yOf_8 rfl (lv_at hl 2 rfl) ?_
  refine lv_aload_n S.1 S.2.1 dX5_yOf_9 rfl (lv_at hl 0 rfl) ?_
  refine dgf5_1 S in5 hE hP k0 (S.2.2.2.2 (.fieldLink RX5 18 "DrillField$Part" "ends" "LDrillField$Spots;") (List.mem_of_getElem? (i := 2) rfl)) dX5_yOf_10 ?_
  refine lv_iload_n S.1 S.2.1 dX5_yOf_13 rfl (lv_at hl 1 rfl) ?_
  obtain ⟨v4, hc3, h⟩ := d_b h
  refine dri (va_runV (As := [.int p1]) (rest := [.int p2, .int v2]) S (kX9_y l g hc3) (cwV 1 S.2.2.2.2 gX5_yOf_X9_y rfl rfl rfl ynX9_y ⟨Nat.le_of_ble_eq_true rfl, Nat.le_of_ble_eq_true rfl⟩) (dpV hE hP hS (ci := 9) rfl (dat10 (dkr6_4 k0))) rfl rfl hl.1 rfl (lv_room (Nat.le_of_ble_eq_true rfl)) dX5_yOf_14 ⟨Nat.le_of_ble_eq_true rfl, Nat.le_of_ble_eq_true rfl⟩) hS (fun H locs hP hS => ?_)
  refine lv_aload_n S.1 S.2.1 dX5_yOf_17 rfl (lv_at hl 0 rfl) ?_
  refine dgf5_0 S in5 hE hP k0 (S.2.2.2.2 (.fieldLink RX5 12 "DrillField$Part" "starts" "LDrillField$Spots;") (List.mem_of_getElem? (i := 1) rfl)) dX5_yOf_18 ?_
  refine lv_iload_n S.1 S.2.1 dX5_yOf_21 rfl (lv_at hl 1 rfl) ?_
  obtain ⟨v6, hc5, h⟩ := d_b h
  refine dri (va_runV (As := [.int p1]) (rest := [.int v4, .int p2, .int v2]) S (kX9_y l g hc5) (cwV 1 S.2.2.2.2 gX5_yOf_X9_y rfl rfl rfl ynX9_y ⟨Nat.le_of_ble_eq_true rfl, Nat.le_of_ble_eq_true rfl⟩) (dpV hE hP hS (ci := 9) rfl (dat10 (dkr6_1 k0))) rfl rfl hl.1 rfl (lv_room (Nat.le_of_ble_eq_true rfl)) dX5_yOf_22 ⟨Nat.le_of_ble_eq_true rfl, Nat.le_of_ble_eq_true rfl⟩) hS (fun H locs hP hS => ?_)
  refine lv_isub S.1 S.2.1 dX5_yOf_25 ?_
  refine lv_imul S.1 S.2.1 dX5_yOf_26 ?_
  refine lv_aload_n S.1 S.2.1 dX5_yOf_27 rfl (lv_at hl 0 rfl) ?_
  refine dgf5_4 S in5 hE hP k0 (S.2.2.2.2 (.fieldLink RX5 25 "DrillField$Part" "counts" "I") (List.mem_of_getElem? (i := 3) rfl)) dX5_yOf_28 ?_
  obtain ⟨v8, hc7, h⟩ := d_b h
  refine dri (va_runSN (As := [.int (p2 * (v4 - v6)), .int (m.1 p0 4)]) (rest := [.int v2]) S (kX11_downBy l g hc7) ⟨va_cnB 2 S.2.2.2.2 gX5_yOf_X11_downBy_n54 rfl rfl rfl (dnq_RX5_54 hE) (S.2.2.2.2 (.initialized RX11) (List.mem_of_getElem? (i := 11) rfl)) ynX11_downBy ⟨Nat.le_of_ble_eq_true rfl, Nat.le_of_ble_eq_true rfl⟩, S.2.2.2.2 (.static yX11_downBy) (List.mem_of_getElem? (i := 13) rfl), trivial⟩ (dpS hE hP hS) rfl rfl hl.1 rfl (lv_room (Nat.le_of_ble_eq_true rfl)) dX5_yOf_31 ⟨Nat.le_of_ble_eq_true rfl, Nat.le_of_ble_eq_true rfl⟩) hS (fun H locs hP hS => ?_)
  refine lv_iadd S.1 S.2.1 dX5_yOf_34 ?_
  obtain rfl := Option.some.inj h
  exact dti S hr hlk hE hP hS rfl dX5_yOf_35
set_option maxRecDepth 20000 in
theorem ggX5_stand_X5_xOf : GoodIn wsX5_stand wsX5_xOf := goodIn_r _ [5, 6, 7, 8, 9, 10, 11, 12, 13, 14, 15, 16, 17, 18, 19, 20, 21, 22, 23, 37, 38, 39, 40, 41, 42, 43, 44, 45] (by decide +kernel) (by decide +kernel)
set_option maxRecDepth 20000 in
theorem gX5_stand_X5_xOf : GoodIn wsX5_stand (wsV RX5 58 RX5 yX5_xOf wsX5_xOf) := goodIn_app (goodIn_of _ (by decide +kernel)) ggX5_stand_X5_xOf
set_option maxRecDepth 20000 in
theorem ggX5_stand_X5_yOf : GoodIn wsX5_stand wsX5_yOf := goodIn_r _ [27, 6, 7, 8, 28, 29, 30, 12, 31, 32, 15, 16, 17, 18, 19, 20, 21, 22, 23, 37, 38, 39, 40, 41, 42, 43, 44, 45] (by decide +kernel) (by decide +kernel)
set_option maxRecDepth 20000 in
theorem gX5_stand_X5_yOf : GoodIn wsX5_stand (wsV RX5 61 RX5 yX5_yOf wsX5_yOf) := goodIn_app (goodIn_of _ (by decide +kernel)) ggX5_stand_X5_yOf
set_option maxRecDepth 20000 in
theorem ggX5_stand_X9_put : GoodIn wsX5_stand wsX9_put := goodIn_r _ [36, 14, 32, 15, 16, 17, 44, 45] (by decide +kernel) (by decide +kernel)
set_option maxRecDepth 20000 in
theorem gX5_stand_X9_put : GoodIn wsX5_stand (wsV RX5 50 RX9 yX9_put wsX9_put) := goodIn_app (goodIn_of _ (by decide +kernel)) ggX5_stand_X9_put
theorem dX5_stand_0 : decode cX5_stand 0 = .ok (.iconst 0, 1) := by decide +kernel
theorem dX5_stand_1 : decode cX5_stand 1 = .ok (.istore 4, 2) := by decide +kernel
theorem dX5_stand_3 : decode cX5_stand 3 = .ok (.iload 4, 2) := by decide +kernel
theorem dX5_stand_5 : decode cX5_stand 5 = .ok (.iload_n 3, 1) := by decide +kernel
theorem dX5_stand_6 : decode cX5_stand 6 = .ok (.if_icmp .ge 29, 3) := by decide +kernel
theorem dX5_stand_9 : decode cX5_stand 9 = .ok (.aload_n 2, 1) := by decide +kernel
theorem dX5_stand_10 : decode cX5_stand 10 = .ok (.iload 4, 2) := by decide +kernel
theorem dX5_stand_12 : decode cX5_stand 12 = .ok (.aload_n 0, 1) := by decide +kernel
theorem dX5_stand_13 : decode cX5_stand 13 = .ok (.iload 4, 2) := by decide +kernel
theorem dX5_stand_15 : decode cX5_stand 15 = .ok (.iload_n 1, 1) := by decide +kernel
theorem dX5_stand_16 : decode cX5_stand 16 = .ok (.invokevirtual 58, 3) := by decide +kernel
theorem dX5_stand_19 : decode cX5_stand 19 = .ok (.aload_n 0, 1) := by decide +kernel
theorem dX5_stand_20 : decode cX5_stand 20 = .ok (.iload 4, 2) := by decide +kernel
theorem dX5_stand_22 : decode cX5_stand 22 = .ok (.iload_n 1, 1) := by decide +kernel
theorem dX5_stand_23 : decode cX5_stand 23 = .ok (.invokevirtual 61, 3) := by decide +kernel
theorem dX5_stand_26 : decode cX5_stand 26 = .ok (.invokevirtual 50, 3) := by decide +kernel
theorem dX5_stand_29 : decode cX5_stand 29 = .ok (.iinc 4 1, 3) := by decide +kernel
theorem dX5_stand_32 : decode cX5_stand 32 = .ok (.goto (-29), 3) := by decide +kernel
theorem dX5_stand_35 : decode cX5_stand 35 = .ok (.return_, 1) := by decide +kernel
def fX5_stand_l3 (p0 : Nat) (p1 : Int32) (p2 : Nat) (p3 : Int32) (v2 : Int32) (m3 : dM) : Option ((Int32 × dM) ⊕ dM) := if p3 ≤ v2 then some (.inr m3) else (fX5_xOf m3 p0 v2 p1).bind (fun v12 => (fX5_yOf m3 p0 v2 p1).bind (fun v14 => (fX9_put m3 p2 v2 v12 v14).bind (fun m16 => dlet (v2 + 1 : Int32) (fun v17 => some (.inl (v17, m16))))))
def fX5_stand (m : dM) (p0 : Nat) (p1 : Int32) (p2 : Nat) (p3 : Int32) : Option dM := dg (dkg p0 6) (dg (dkg p2 10) ((dlp (fun q => dP2 q (fun v2 m3 => fX5_stand_l3 p0 p1 p2 p3 v2 m3)) dFl (0, m)).bind (fun q => dP1 q (fun m18 => some m18))))
set_option maxHeartbeats 4000000 in
set_option maxRecDepth 100000 in
theorem kX5_stand (l : Launch) (g : dG) {m : dM} {p0 : Nat} {p1 : Int32} {p2 : Nat} {p3 : Int32} {m0 : dM} (h : fX5_stand m p0 p1 p2 p3 = some m0) : dMet l g yX5_stand wsX5_stand (dRm 3 65) [.ref (dad g p0), .int p1, .ref (dad g p2), .int p3] m (dQV g m0) := by
  refine dof (cc := cX5_stand) (maxL := 5) (ret := none) _ (plainFor_of_name (by decide)) rfl (Nat.le_of_ble_eq_true rfl) ?_
  intro p e s mth below meth c S hr hlk hE H ls hP hS hl
  have S : CallFix p mth c cX5_stand 5 s _ wsX5_stand RX5 := S
  have hl : lv_has ls 5 [(0, .ref (dad g p0)), (1, .int p1), (2, .ref (dad g p2)), (3, .int p3)] := hl
  obtain ⟨locs, hlocs⟩ : ∃ z : List Loc, z = [] := ⟨_, rfl⟩
  rw [← hlocs] at hS ⊢
  unfold fX5_stand at h
  obtain ⟨k0, h⟩ := d_g h
  have k0 := d_k k0
  obtain ⟨k2, h⟩ := d_g h
  have k2 := d_k k2
  refine lv_iconst (v := 0) S.1 S.2.1 dX5_stand_0 (by decide) ?_
  refine lv_istore (lv' := [(4, .int 0), (0, .ref (dad g p0)), (1, .int p1), (2, .ref (dad g p2)), (3, .int p3)]) S.1 S.2.1 dX5_stand_1 hl (by decide) rfl (fun ls hl => ?_)
  obtain ⟨qL1, hqL1, h⟩ := d_b h
  refine d_lp (Hd := fun q => match q with | (v2, m3) => ∀ (H : Heap) (locs : List Loc) (ls : Array Slot), va_P g.1 vwCl (dws g m3) H → va_S (dA g) s.heap H locs → lv_has ls 5 [(4, .int v2), (0, .ref (dad g p0)), (1, .int p1), (2, .ref (dad g p2)), (3, .int p3)] → W p l e (headSpec wsX5_stand (dRm 3 65)).room s mth (([.ref (dad g p0), .int p1, .ref (dad g p2), .int p3] : List Value).toArray) below meth c H locs 0 0 (MQ below (dQV g m0) (([.ref (dad g p0), .int p1, .ref (dad g p2), .int p3] : List Value).toArray) s 0 0 (dA g)) (F0 mth 3 ls [])) (K := fun q => (fun (m18 : _) => ∀ (H : Heap) (locs : List Loc) (ls : Array Slot), va_P g.1 vwCl (dws g m18) H → va_S (dA g) s.heap H locs → lv_has ls 5 [] → W p l e (headSpec wsX5_stand (dRm 3 65)).room s mth (([.ref (dad g p0), .int p1, .ref (dad g p2), .int p3] : List Value).toArray) below meth c H locs 0 0 (MQ below (dQV g m0) (([.ref (dad g p0), .int p1, .ref (dad g p2), .int p3] : List Value).toArray) s 0 0 (dA g)) (F0 mth 35 ls [])) q) ?_ dFl _ qL1 hqL1 ?_ H locs ls hP hS (lv_sub hl [0, 1, 2, 3, 4] rfl)
  · intro q o h hCL1 hEL1
    obtain ⟨v2, m3⟩ := q
    have h : fX5_stand_l3 p0 p1 p2 p3 v2 m3 = some o := h
    intro H locs ls hP hS hl
    have hP : va_P g.1 vwCl (dws g m3) H := hP
    have hl : lv_has ls 5 [(4, .int v2), (0, .ref (dad g p0)), (1, .int p1), (2, .ref (dad g p2)), (3, .int p3)] := hl
    unfold fX5_stand_l3 at h
    refine lv_iload S.1 S.2.1 dX5_stand_3 (lv_at hl 0 rfl) ?_
    refine lv_iload_n S.1 S.2.1 dX5_stand_5 rfl (lv_at hl 4 rfl) ?_
    refine lv_icmp_ge (tgt := 35) S.1 S.2.1 dX5_stand_6 (by decide) (fun cq => ?_) (fun cq => ?_)
    · have h := d_t cq h
      obtain rfl := Option.some.inj h
      exact hEL1 _ rfl H locs ls hP hS (lv_sub hl [] rfl)
    · have h := d_f cq h
      refine lv_aload_n S.1 S.2.1 dX5_stand_9 rfl (lv_at hl 3 rfl) ?_
      refine lv_iload S.1 S.2.1 dX5_stand_10 (lv_at hl 0 rfl) ?_
      refine lv_aload_n S.1 S.2.1 dX5_stand_12 rfl (lv_at hl 1 rfl) ?_
      refine lv_iload S.1 S.2.1 dX5_stand_13 (lv_at hl 0 rfl) ?_
      refine lv_iload_n S.1 S.2.1 dX5_stand_15 rfl (lv_at hl 2 rfl) ?_
      obtain ⟨v12, hc11, h⟩ := d_b h
      refine dri (va_runV (As := [.int v2, .int p1]) (rest := [.int v2, .ref (dad g p2)]) S (kX5_xOf l g hc11) (cwV 2 S.2.2.2.2 gX5_stand_X5_xOf rfl rfl rfl ynX5_xOf ⟨Nat.le_of_ble_eq_true rfl, Nat.le_of_ble_eq_true rfl⟩) (dpV hE hP hS (ci := 5) rfl (dat6 k0)) rfl rfl hl.1 rfl (lv_room (Nat.le_of_ble_eq_true rfl)) dX5_stand_16 ⟨Nat.le_of_ble_eq_true rfl, Nat.le_of_ble_eq_true rfl⟩) hS (fun H locs hP hS => ?_)
      refine lv_aload_n S.1 S.2.1 dX5_stand_19 rfl (lv_at hl 1 rfl) ?_
      refine lv_iload S.1 S.2.1 dX5_stand_20 (lv_at hl 0 rfl) ?_
      refine lv_iload_n S.1 S.2.1 dX5_stand_22 rfl (lv_at hl 2 rfl) ?_
      obtain ⟨v14, hc13, h⟩ := d_b h
      refine dri (va_runV (As := [.int v2, .int p1]) (rest := [.int v12, .int v2, .ref (dad g p2)]) S (kX5_yOf l g hc13) (cwV 2 S.2.2.2.2 gX5_stand_X5_yOf rfl rfl rfl ynX5_yOf ⟨Nat.le_of_ble_eq_true rfl, Nat.le_of_ble_eq_true rfl⟩) (dpV hE hP hS (ci := 5) rfl (dat6 k0)) rfl rfl hl.1 rfl (lv_room (Nat.le_of_ble_eq_true rfl)) dX5_stand_23 ⟨Nat.le_of_ble_eq_true rfl, Nat.le_of_ble_eq_true rfl⟩) hS (fun H locs hP hS => ?_)
      obtain ⟨m16, hc15, h⟩ := d_b h
      refine drv (va_runV (As := [.int v2, .int v12, .int v14]) (rest := []) S (kX9_put l g hc15) (cwV 3 S.2.2.2.2 gX5_stand_X9_put rfl rfl rfl ynX9_put ⟨Nat.le_of_ble_eq_true rfl, Nat.le_of_ble_eq_true rfl⟩) (dpV hE hP hS (ci := 9) rfl (dat10 k2)) rfl rfl hl.1 rfl (lv_room (Nat.le_of_ble_eq_true rfl)) dX5_stand_26 ⟨Nat.le_of_ble_eq_true rfl, Nat.le_of_ble_eq_true rfl⟩) hS (fun H locs hP hS => ?_)
      obtain ⟨v17, ev17⟩ : ∃ z : Int32, z = v2 + 1 := ⟨_, rfl⟩
      have h := d_let ev17 h
      refine lv_iinc (v := v17) (lv' := [(4, .int v17), (0, .ref (dad g p0)), (1, .int p1), (2, .ref (dad g p2)), (3, .int p3)]) S.1 S.2.1 dX5_stand_29 hl (k := 0) rfl (by rw [ev17]; rfl) (by decide) rfl (fun ls hl => ?_)
      refine lv_goto (tgt := 3) S.1 S.2.1 dX5_stand_32 (by decide) ?_
      obtain rfl := Option.some.inj h
      exact hCL1 _ rfl H locs ls hP hS (lv_sub hl [0, 1, 2, 3, 4] rfl)
  · obtain ⟨m18, rfl⟩ : ∃ z, z = qL1 := ⟨_, rfl⟩
    have h := d_p1 h
    intro H locs ls hP hS hl
    have hP : va_P g.1 vwCl (dws g m18) H := hP
    have hl : lv_has ls 5 [] := hl
    obtain rfl := Option.some.inj h
    exact dtv S hr hlk hE hP hS dX5_stand_35
theorem dX5_tell_0 : decode cX5_tell 0 = .ok (.aload_n 0, 1) := by decide +kernel
theorem dX5_tell_1 : decode cX5_tell 1 = .ok (.iload_n 1, 1) := by decide +kernel
theorem dX5_tell_2 : decode cX5_tell 2 = .ok (.putfield 32, 3) := by decide +kernel
theorem dX5_tell_5 : decode cX5_tell 5 = .ok (.aload_n 0, 1) := by decide +kernel
theorem dX5_tell_6 : decode cX5_tell 6 = .ok (.iload_n 2, 1) := by decide +kernel
theorem dX5_tell_7 : decode cX5_tell 7 = .ok (.putfield 25, 3) := by decide +kernel
theorem dX5_tell_10 : decode cX5_tell 10 = .ok (.aload_n 0, 1) := by decide +kernel
theorem dX5_tell_11 : decode cX5_tell 11 = .ok (.iload_n 3, 1) := by decide +kernel
theorem dX5_tell_12 : decode cX5_tell 12 = .ok (.putfield 29, 3) := by decide +kernel
theorem dX5_tell_15 : decode cX5_tell 15 = .ok (.aload_n 0, 1) := by decide +kernel
theorem dX5_tell_16 : decode cX5_tell 16 = .ok (.iload 4, 2) := by decide +kernel
theorem dX5_tell_18 : decode cX5_tell 18 = .ok (.putfield 35, 3) := by decide +kernel
theorem dX5_tell_21 : decode cX5_tell 21 = .ok (.return_, 1) := by decide +kernel
def fX5_tell (m : dM) (p0 : Nat) (p1 : Int32) (p2 : Int32) (p3 : Int32) (p4 : Int32) : Option dM := dg (dkg p0 6) (dlet (d1 m p0 3 p1) (fun m1 => dlet (d1 m1 p0 4 p2) (fun m2 => dlet (d1 m2 p0 5 p3) (fun m3 => dg (dB p4) (dlet (d1 m3 p0 6 p4) (fun m4 => some m4))))))
set_option maxHeartbeats 4000000 in
set_option maxRecDepth 100000 in
theorem kX5_tell (l : Launch) (g : dG) {m : dM} {p0 : Nat} {p1 : Int32} {p2 : Int32} {p3 : Int32} {p4 : Int32} {m0 : dM} (h : fX5_tell m p0 p1 p2 p3 p4 = some m0) : dMet l g yX5_tell wsX5_tell (dRm 0 0) [.ref (dad g p0), .int p1, .int p2, .int p3, .int p4] m (dQV g m0) := by
  refine dof (cc := cX5_tell) (maxL := 5) (ret := none) _ (plainFor_of_name (by decide)) rfl (Nat.le_of_ble_eq_true rfl) ?_
  intro p e s mth below meth c S hr hlk hE H ls hP hS hl
  have S : CallFix p mth c cX5_tell 5 s _ wsX5_tell RX5 := S
  have hl : lv_has ls 5 [(0, .ref (dad g p0)), (1, .int p1), (2, .int p2), (3, .int p3), (4, .int p4)] := hl
  obtain ⟨locs, hlocs⟩ : ∃ z : List Loc, z = [] := ⟨_, rfl⟩
  rw [← hlocs] at hS ⊢
  have in5 : ∀ w ∈ wsX50, w ∈ wsX5_tell := by decide +kernel
  unfold fX5_tell at h
  obtain ⟨k0, h⟩ := d_g h
  have k0 := d_k k0
  refine lv_aload_n S.1 S.2.1 dX5_tell_0 rfl (lv_at hl 0 rfl) ?_
  refine lv_iload_n S.1 S.2.1 dX5_tell_1 rfl (lv_at hl 1 rfl) ?_
  refine dpf5_3 S in5 hE hP hS k0 (S.2.2.2.2 (.fieldLink RX5 32 "DrillField$Part" "set" "I") (List.mem_of_getElem? (i := 1) rfl)) dX5_tell_2 (fun H locs hP hS => ?_)
  obtain ⟨m1, em1⟩ : ∃ z : dM, z = d1 m p0 3 p1 := ⟨_, rfl⟩
  have h := d_let em1 h
  rw [← em1] at hP
  refine lv_aload_n S.1 S.2.1 dX5_tell_5 rfl (lv_at hl 0 rfl) ?_
  refine lv_iload_n S.1 S.2.1 dX5_tell_6 rfl (lv_at hl 2 rfl) ?_
  refine dpf5_4 S in5 hE hP hS k0 (S.2.2.2.2 (.fieldLink RX5 25 "DrillField$Part" "counts" "I") (List.mem_of_getElem? (i := 2) rfl)) dX5_tell_7 (fun H locs hP hS => ?_)
  obtain ⟨m2, em2⟩ : ∃ z : dM, z = d1 m1 p0 4 p2 := ⟨_, rfl⟩
  have h := d_let em2 h
  rw [← em2] at hP
  refine lv_aload_n S.1 S.2.1 dX5_tell_10 rfl (lv_at hl 0 rfl) ?_
  refine lv_iload_n S.1 S.2.1 dX5_tell_11 rfl (lv_at hl 3 rfl) ?_
  refine dpf5_5 S in5 hE hP hS k0 (S.2.2.2.2 (.fieldLink RX5 29 "DrillField$Part" "tempo" "I") (List.mem_of_getElem? (i := 3) rfl)) dX5_tell_12 (fun H locs hP hS => ?_)
  obtain ⟨m3, em3⟩ : ∃ z : dM, z = d1 m2 p0 5 p3 := ⟨_, rfl⟩
  have h := d_let em3 h
  rw [← em3] at hP
  refine lv_aload_n S.1 S.2.1 dX5_tell_15 rfl (lv_at hl 0 rfl) ?_
  refine lv_iload S.1 S.2.1 dX5_tell_16 (lv_at hl 4 rfl) ?_
  obtain ⟨hb, h⟩ := d_g h
  refine dpf5_6 S in5 hE hP hS k0 hb (S.2.2.2.2 (.fieldLink RX5 35 "DrillField$Part" "isLeast" "Z") (List.mem_of_getElem? (i := 4) rfl)) dX5_tell_18 (fun H locs hP hS => ?_)
  obtain ⟨m4, em4⟩ : ∃ z : dM, z = d1 m3 p0 6 p4 := ⟨_, rfl⟩
  have h := d_let em4 h
  rw [← em4] at hP
  obtain rfl := Option.some.inj h
  exact dtv S hr hlk hE hP hS dX5_tell_21
theorem dX5_tempo_0 : decode cX5_tempo 0 = .ok (.aload_n 0, 1) := by decide +kernel
theorem dX5_tempo_1 : decode cX5_tempo 1 = .ok (.getfield 29, 3) := by decide +kernel
theorem dX5_tempo_4 : decode cX5_tempo 4 = .ok (.ireturn, 1) := by decide +kernel
def fX5_tempo (m : dM) (p0 : Nat) : Option Int32 := dg (dkg p0 6) (some (m.1 p0 5))
set_option maxHeartbeats 4000000 in
set_option maxRecDepth 100000 in
theorem kX5_tempo (l : Launch) (g : dG) {m : dM} {p0 : Nat} {r0 : Int32} (h : fX5_tempo m p0 = some r0) : dMet l g yX5_tempo wsX5_tempo (dRm 0 0) [.ref (dad g p0)] m (dQI g r0 m) := by
  refine dof (cc := cX5_tempo) (maxL := 1) (ret := (some .int)) _ (plainFor_of_name (by decide)) rfl (Nat.le_of_ble_eq_true rfl) ?_
  intro p e s mth below meth c S hr hlk hE H ls hP hS hl
  have S : CallFix p mth c cX5_tempo 1 s _ wsX5_tempo RX5 := S
  have hl : lv_has ls 1 [(0, .ref (dad g p0))] := hl
  obtain ⟨locs, hlocs⟩ : ∃ z : List Loc, z = [] := ⟨_, rfl⟩
  rw [← hlocs] at hS ⊢
  have in5 : ∀ w ∈ wsX50, w ∈ wsX5_tempo := by decide +kernel
  unfold fX5_tempo at h
  obtain ⟨k0, h⟩ := d_g h
  have k0 := d_k k0
  refine lv_aload_n S.1 S.2.1 dX5_tempo_0 rfl (lv_at hl 0 rfl) ?_
  refine dgf5_5 S in5 hE hP k0 (S.2.2.2.2 (.fieldLink RX5 29 "DrillField$Part" "tempo" "I") (List.mem_of_getElem? (i := 1) rfl)) dX5_tempo_1 ?_
  obtain rfl := Option.some.inj h
  exact dti S hr hlk hE hP hS rfl dX5_tempo_4
set_option maxRecDepth 20000 in
theorem ggX5_tenthsOfSeconds_X11_downBy : GoodIn wsX5_tenthsOfSeconds wsX11_downBy := goodIn_r _ [5, 6, 7, 8, 9] (by decide +kernel) (by decide +kernel)
set_option maxRecDepth 20000 in
theorem gX5_tenthsOfSeconds_X11_downBy_n54 : GoodIn wsX5_tenthsOfSeconds (wsX11_downBy) := ggX5_tenthsOfSeconds_X11_downBy
theorem dX5_tenthsOfSeconds_0 : decode cX5_tenthsOfSeconds 0 = .ok (.aload_n 0, 1) := by decide +kernel
theorem dX5_tenthsOfSeconds_1 : decode cX5_tenthsOfSeconds 1 = .ok (.getfield 25, 3) := by decide +kernel
theorem dX5_tenthsOfSeconds_4 : decode cX5_tenthsOfSeconds 4 = .ok (.sipush 600, 3) := by decide +kernel
theorem dX5_tenthsOfSeconds_7 : decode cX5_tenthsOfSeconds 7 = .ok (.imul, 1) := by decide +kernel
theorem dX5_tenthsOfSeconds_8 : decode cX5_tenthsOfSeconds 8 = .ok (.aload_n 0, 1) := by decide +kernel
theorem dX5_tenthsOfSeconds_9 : decode cX5_tenthsOfSeconds 9 = .ok (.getfield 29, 3) := by decide +kernel
theorem dX5_tenthsOfSeconds_12 : decode cX5_tenthsOfSeconds 12 = .ok (.invokestatic 54, 3) := by decide +kernel
theorem dX5_tenthsOfSeconds_15 : decode cX5_tenthsOfSeconds 15 = .ok (.ireturn, 1) := by decide +kernel
def fX5_tenthsOfSeconds (m : dM) (p0 : Nat) : Option Int32 := dg (dkg p0 6) ((fX11_downBy m ((m.1 p0 4) * 600) (m.1 p0 5)).bind (fun v2 => some v2))
set_option maxHeartbeats 4000000 in
set_option maxRecDepth 100000 in
theorem kX5_tenthsOfSeconds (l : Launch) (g : dG) {m : dM} {p0 : Nat} {r0 : Int32} (h : fX5_tenthsOfSeconds m p0 = some r0) : dMet l g yX5_tenthsOfSeconds wsX5_tenthsOfSeconds (dRm 2 43) [.ref (dad g p0)] m (dQI g r0 m) := by
  refine dof (cc := cX5_tenthsOfSeconds) (maxL := 1) (ret := (some .int)) _ (plainFor_of_name (by decide)) rfl (Nat.le_of_ble_eq_true rfl) ?_
  intro p e s mth below meth c S hr hlk hE H ls hP hS hl
  have S : CallFix p mth c cX5_tenthsOfSeconds 1 s _ wsX5_tenthsOfSeconds RX5 := S
  have hl : lv_has ls 1 [(0, .ref (dad g p0))] := hl
  obtain ⟨locs, hlocs⟩ : ∃ z : List Loc, z = [] := ⟨_, rfl⟩
  rw [← hlocs] at hS ⊢
  have in5 : ∀ w ∈ wsX50, w ∈ wsX5_tenthsOfSeconds := by decide +kernel
  unfold fX5_tenthsOfSeconds at h
  obtain ⟨k0, h⟩ := d_g h
  have k0 := d_k k0
  refine lv_aload_n S.1 S.2.1 dX5_tenthsOfSeconds_0 rfl (lv_at hl 0 rfl) ?_
  refine dgf5_4 S in5 hE hP k0 (S.2.2.2.2 (.fieldLink RX5 25 "DrillField$Part" "counts" "I") (List.mem_of_getElem? (i := 1) rfl)) dX5_tenthsOfSeconds_1 ?_
  refine lv_sipush (v := 600) S.1 S.2.1 dX5_tenthsOfSeconds_4 (by decide) ?_
  refine lv_imul S.1 S.2.1 dX5_tenthsOfSeconds_7 ?_
  refine lv_aload_n S.1 S.2.1 dX5_tenthsOfSeconds_8 rfl (lv_at hl 0 rfl) ?_
  refine dgf5_5 S in5 hE hP k0 (S.2.2.2.2 (.fieldLink RX5 29 "DrillField$Part" "tempo" "I") (List.mem_of_getElem? (i := 2) rfl)) dX5_tenthsOfSeconds_9 ?_
  obtain ⟨v2, hc1, h⟩ := d_b h
  refine dri (va_runSN (As := [.int ((m.1 p0 4) * 600), .int (m.1 p0 5)]) (rest := []) S (kX11_downBy l g hc1) ⟨va_cnB 2 S.2.2.2.2 gX5_tenthsOfSeconds_X11_downBy_n54 rfl rfl rfl (dnq_RX5_54 hE) (S.2.2.2.2 (.initialized RX11) (List.mem_of_getElem? (i := 4) rfl)) ynX11_downBy ⟨Nat.le_of_ble_eq_true rfl, Nat.le_of_ble_eq_true rfl⟩, S.2.2.2.2 (.static yX11_downBy) (List.mem_of_getElem? (i := 3) rfl), trivial⟩ (dpS hE hP hS) rfl rfl hl.1 rfl (lv_room (Nat.le_of_ble_eq_true rfl)) dX5_tenthsOfSeconds_12 ⟨Nat.le_of_ble_eq_true rfl, Nat.le_of_ble_eq_true rfl⟩) hS (fun H locs hP hS => ?_)
  obtain rfl := Option.some.inj h
  exact dti S hr hlk hE hP hS rfl dX5_tenthsOfSeconds_15
set_option maxRecDepth 20000 in
theorem ggX7_draftBlock_X11_restBy : GoodIn wsX7_draftBlock wsX11_restBy := goodIn_r _ [4, 5, 6, 7, 8] (by decide +kernel) (by decide +kernel)
set_option maxRecDepth 20000 in
theorem gX7_draftBlock_X11_restBy_n38 : GoodIn wsX7_draftBlock (wsX11_restBy) := ggX7_draftBlock_X11_restBy
set_option maxRecDepth 20000 in
theorem ggX7_draftBlock_X11_downBy : GoodIn wsX7_draftBlock wsX11_downBy := goodIn_r _ [10, 11, 12, 7, 13] (by decide +kernel) (by decide +kernel)
set_option maxRecDepth 20000 in
theorem gX7_draftBlock_X11_downBy_n30 : GoodIn wsX7_draftBlock (wsX11_downBy) := ggX7_draftBlock_X11_downBy
set_option maxRecDepth 20000 in
theorem ggX7_draftBlock_X9_put : GoodIn wsX7_draftBlock wsX9_put := goodIn_r _ [18, 19, 20, 21, 3, 22, 26, 27] (by decide +kernel) (by decide +kernel)
set_option maxRecDepth 20000 in
theorem gX7_draftBlock_X9_put : GoodIn wsX7_draftBlock (wsV RX7 34 RX9 yX9_put wsX9_put) := goodIn_app (goodIn_of _ (by decide +kernel)) ggX7_draftBlock_X9_put
theorem dX7_draftBlock_0 : decode cX7_draftBlock 0 = .ok (.iconst 0, 1) := by decide +kernel
theorem dX7_draftBlock_1 : decode cX7_draftBlock 1 = .ok (.istore 6, 2) := by decide +kernel
theorem dX7_draftBlock_3 : decode cX7_draftBlock 3 = .ok (.iload 6, 2) := by decide +kernel
theorem dX7_draftBlock_5 : decode cX7_draftBlock 5 = .ok (.iload 5, 2) := by decide +kernel
theorem dX7_draftBlock_7 : decode cX7_draftBlock 7 = .ok (.if_icmp .ge 40, 3) := by decide +kernel
theorem dX7_draftBlock_10 : decode cX7_draftBlock 10 = .ok (.aload_n 0, 1) := by decide +kernel
theorem dX7_draftBlock_11 : decode cX7_draftBlock 11 = .ok (.getfield 18, 3) := by decide +kernel
theorem dX7_draftBlock_14 : decode cX7_draftBlock 14 = .ok (.iload 6, 2) := by decide +kernel
theorem dX7_draftBlock_16 : decode cX7_draftBlock 16 = .ok (.iload_n 1, 1) := by decide +kernel
theorem dX7_draftBlock_17 : decode cX7_draftBlock 17 = .ok (.iload 4, 2) := by decide +kernel
theorem dX7_draftBlock_19 : decode cX7_draftBlock 19 = .ok (.iload 6, 2) := by decide +kernel
theorem dX7_draftBlock_21 : decode cX7_draftBlock 21 = .ok (.iload_n 3, 1) := by decide +kernel
theorem dX7_draftBlock_22 : decode cX7_draftBlock 22 = .ok (.invokestatic 38, 3) := by decide +kernel
theorem dX7_draftBlock_25 : decode cX7_draftBlock 25 = .ok (.imul, 1) := by decide +kernel
theorem dX7_draftBlock_26 : decode cX7_draftBlock 26 = .ok (.iadd, 1) := by decide +kernel
theorem dX7_draftBlock_27 : decode cX7_draftBlock 27 = .ok (.iload_n 2, 1) := by decide +kernel
theorem dX7_draftBlock_28 : decode cX7_draftBlock 28 = .ok (.iload 4, 2) := by decide +kernel
theorem dX7_draftBlock_30 : decode cX7_draftBlock 30 = .ok (.iload 6, 2) := by decide +kernel
theorem dX7_draftBlock_32 : decode cX7_draftBlock 32 = .ok (.iload_n 3, 1) := by decide +kernel
theorem dX7_draftBlock_33 : decode cX7_draftBlock 33 = .ok (.invokestatic 30, 3) := by decide +kernel
theorem dX7_draftBlock_36 : decode cX7_draftBlock 36 = .ok (.imul, 1) := by decide +kernel
theorem dX7_draftBlock_37 : decode cX7_draftBlock 37 = .ok (.iadd, 1) := by decide +kernel
theorem dX7_draftBlock_38 : decode cX7_draftBlock 38 = .ok (.invokevirtual 34, 3) := by decide +kernel
theorem dX7_draftBlock_41 : decode cX7_draftBlock 41 = .ok (.iinc 6 1, 3) := by decide +kernel
theorem dX7_draftBlock_44 : decode cX7_draftBlock 44 = .ok (.goto (-41), 3) := by decide +kernel
theorem dX7_draftBlock_47 : decode cX7_draftBlock 47 = .ok (.return_, 1) := by decide +kernel
def fX7_draftBlock_l3 (p1 : Int32) (p2 : Int32) (p3 : Int32) (p4 : Int32) (p5 : Int32) (v2 : Int32) (m3 : dM) : Option ((Int32 × dM) ⊕ dM) := if p5 ≤ v2 then some (.inr m3) else (fX11_restBy m3 v2 p3).bind (fun v12 => (fX11_downBy m3 v2 p3).bind (fun v14 => (fX9_put m3 44 v2 (p1 + (p4 * v12)) (p2 + (p4 * v14))).bind (fun m16 => dlet (v2 + 1 : Int32) (fun v17 => some (.inl (v17, m16))))))
def fX7_draftBlock (m : dM) (p0 : Nat) (p1 : Int32) (p2 : Int32) (p3 : Int32) (p4 : Int32) (p5 : Int32) : Option dM := dg (dkg p0 8) ((dlp (fun q => dP2 q (fun v2 m3 => fX7_draftBlock_l3 p1 p2 p3 p4 p5 v2 m3)) dFl (0, m)).bind (fun q => dP1 q (fun m18 => some m18)))
set_option maxHeartbeats 4000000 in
set_option maxRecDepth 100000 in
theorem kX7_draftBlock (l : Launch) (g : dG) {m : dM} {p0 : Nat} {p1 : Int32} {p2 : Int32} {p3 : Int32} {p4 : Int32} {p5 : Int32} {m0 : dM} (h : fX7_draftBlock m p0 p1 p2 p3 p4 p5 = some m0) : dMet l g yX7_draftBlock wsX7_draftBlock (dRm 2 43) [.ref (dad g p0), .int p1, .int p2, .int p3, .int p4, .int p5] m (dQV g m0) := by
  refine dof (cc := cX7_draftBlock) (maxL := 7) (ret := none) _ (plainFor_of_name (by decide)) rfl (Nat.le_of_ble_eq_true rfl) ?_
  intro p e s mth below meth c S hr hlk hE H ls hP hS hl
  have S : CallFix p mth c cX7_draftBlock 7 s _ wsX7_draftBlock RX7 := S
  have hl : lv_has ls 7 [(0, .ref (dad g p0)), (1, .int p1), (2, .int p2), (3, .int p3), (4, .int p4), (5, .int p5)] := hl
  obtain ⟨locs, hlocs⟩ : ∃ z : List Loc, z = [] := ⟨_, rfl⟩
  rw [← hlocs] at hS ⊢
  have in7 : ∀ w ∈ wsX70, w ∈ wsX7_draftBlock := by decide +kernel
  unfold fX7_draftBlock at h
  obtain ⟨k0, h⟩ := d_g h
  have k0 := d_k k0
  refine lv_iconst (v := 0) S.1 S.2.1 dX7_draftBlock_0 (by decide) ?_
  refine lv_istore (lv' := [(6, .int 0), (0, .ref (dad g p0)), (1, .int p1), (2, .int p2), (3, .int p3), (4, .int p4), (5, .int p5)]) S.1 S.2.1 dX7_draftBlock_1 hl (by decide) rfl (fun ls hl => ?_)
  obtain ⟨qL1, hqL1, h⟩ := d_b h
  refine d_lp (Hd := fun q => match q with | (v2, m3) => ∀ (H : Heap) (locs : List Loc) (ls : Array Slot), va_P g.1 vwCl (dws g m3) H → va_S (dA g) s.heap H locs → lv_has ls 7 [(6, .int v2), (0, .ref (dad g p0)), (1, .int p1), (2, .int p2), (3, .int p3), (4, .int p4), (5, .int p5)] → W p l e (headSpec wsX7_draftBlock (dRm 2 43)).room s mth (([.ref (dad g p0), .int p1, .int p2, .int p3, .int p4, .int p5] : List Value).toArray) below meth c H locs 0 0 (MQ below (dQV g m0) (([.ref (dad g p0), .int p1, .int p2, .int p3, .int p4, .int p5] : List Value).toArray) s 0 0 (dA g)) (F0 mth 3 ls [])) (K := fun q => (fun (m18 : _) => ∀ (H : Heap) (locs : List Loc) (ls : Array Slot), va_P g.1 vwCl (dws g m18) H → va_S (dA g) s.heap H locs → lv_has ls 7 [] → W p l e (headSpec wsX7_draftBlock (dRm 2 43)).room s mth (([.ref (dad g p0), .int p1, .int p2, .int p3, .int p4, .int p5] : List Value).toArray) below meth c H locs 0 0 (MQ below (dQV g m0) (([.ref (dad g p0), .int p1, .int p2, .int p3, .int p4, .int p5] : List Value).toArray) s 0 0 (dA g)) (F0 mth 47 ls [])) q) ?_ dFl _ qL1 hqL1 ?_ H locs ls hP hS (lv_sub hl [0, 1, 2, 3, 4, 5, 6] rfl)
  · intro q o h hCL1 hEL1
    obtain ⟨v2, m3⟩ := q
    have h : fX7_draftBlock_l3 p1 p2 p3 p4 p5 v2 m3 = some o := h
    intro H locs ls hP hS hl
    have hP : va_P g.1 vwCl (dws g m3) H := hP
    have hl : lv_has ls 7 [(6, .int v2), (0, .ref (dad g p0)), (1, .int p1), (2, .int p2), (3, .int p3), (4, .int p4), (5, .int p5)] := hl
    unfold fX7_draftBlock_l3 at h
    refine lv_iload S.1 S.2.1 dX7_draftBlock_3 (lv_at hl 0 rfl) ?_
    refine lv_iload S.1 S.2.1 dX7_draftBlock_5 (lv_at hl 6 rfl) ?_
    refine lv_icmp_ge (tgt := 47) S.1 S.2.1 dX7_draftBlock_7 (by decide) (fun cq => ?_) (fun cq => ?_)
    · have h := d_t cq h
      obtain rfl := Option.some.inj h
      exact hEL1 _ rfl H locs ls hP hS (lv_sub hl [] rfl)
    · have h := d_f cq h
      refine lv_aload_n S.1 S.2.1 dX7_draftBlock_10 rfl (lv_at hl 1 rfl) ?_
      refine dgf7_1 S in7 hE hP k0 (S.2.2.2.2 (.fieldLink RX7 18 "DrillField$Sets" "draft" "LDrillField$Spots;") (List.mem_of_getElem? (i := 1) rfl)) dX7_draftBlock_11 ?_
      refine lv_iload S.1 S.2.1 dX7_draftBlock_14 (lv_at hl 0 rfl) ?_
      refine lv_iload_n S.1 S.2.1 dX7_draftBlock_16 rfl (lv_at hl 2 rfl) ?_
      refine lv_iload S.1 S.2.1 dX7_draftBlock_17 (lv_at hl 5 rfl) ?_
      refine lv_iload S.1 S.2.1 dX7_draftBlock_19 (lv_at hl 0 rfl) ?_
      refine lv_iload_n S.1 S.2.1 dX7_draftBlock_21 rfl (lv_at hl 4 rfl) ?_
      obtain ⟨v12, hc11, h⟩ := d_b h
      refine dri (va_runSN (As := [.int v2, .int p3]) (rest := [.int p4, .int p1, .int v2, .ref (dad g 44)]) S (kX11_restBy l g hc11) ⟨va_cnB 2 S.2.2.2.2 gX7_draftBlock_X11_restBy_n38 rfl rfl rfl (dnq_RX7_38 hE) (S.2.2.2.2 (.initialized RX11) (List.mem_of_getElem? (i := 3) rfl)) ynX11_restBy ⟨Nat.le_of_ble_eq_true rfl, Nat.le_of_ble_eq_true rfl⟩, S.2.2.2.2 (.static yX11_restBy) (List.mem_of_getElem? (i := 2) rfl), trivial⟩ (dpS hE hP hS) rfl rfl hl.1 rfl (lv_room (Nat.le_of_ble_eq_true rfl)) dX7_draftBlock_22 ⟨Nat.le_of_ble_eq_true rfl, Nat.le_of_ble_eq_true rfl⟩) hS (fun H locs hP hS => ?_)
      refine lv_imul S.1 S.2.1 dX7_draftBlock_25 ?_
      refine lv_iadd S.1 S.2.1 dX7_draftBlock_26 ?_
      refine lv_iload_n S.1 S.2.1 dX7_draftBlock_27 rfl (lv_at hl 3 rfl) ?_
      refine lv_iload S.1 S.2.1 dX7_draftBlock_28 (lv_at hl 5 rfl) ?_
      refine lv_iload S.1 S.2.1 dX7_draftBlock_30 (lv_at hl 0 rfl) ?_
      refine lv_iload_n S.1 S.2.1 dX7_draftBlock_32 rfl (lv_at hl 4 rfl) ?_
      obtain ⟨v14, hc13, h⟩ := d_b h
      refine dri (va_runSN (As := [.int v2, .int p3]) (rest := [.int p4, .int p2, .int (p1 + (p4 * v12)), .int v2, .ref (dad g 44)]) S (kX11_downBy l g hc13) ⟨va_cnB 2 S.2.2.2.2 gX7_draftBlock_X11_downBy_n30 rfl rfl rfl (dnq_RX7_30 hE) (S.2.2.2.2 (.initialized RX11) (List.mem_of_getElem? (i := 3) rfl)) ynX11_downBy ⟨Nat.le_of_ble_eq_true rfl, Nat.le_of_ble_eq_true rfl⟩, S.2.2.2.2 (.static yX11_downBy) (List.mem_of_getElem? (i := 9) rfl), trivial⟩ (dpS hE hP hS) rfl rfl hl.1 rfl (lv_room (Nat.le_of_ble_eq_true rfl)) dX7_draftBlock_33 ⟨Nat.le_of_ble_eq_true rfl, Nat.le_of_ble_eq_true rfl⟩) hS (fun H locs hP hS => ?_)
      refine lv_imul S.1 S.2.1 dX7_draftBlock_36 ?_
      refine lv_iadd S.1 S.2.1 dX7_draftBlock_37 ?_
      obtain ⟨m16, hc15, h⟩ := d_b h
      refine drv (va_runV (As := [.int v2, .int (p1 + (p4 * v12)), .int (p2 + (p4 * v14))]) (rest := []) S (kX9_put l g hc15) (cwV 3 S.2.2.2.2 gX7_draftBlock_X9_put rfl rfl rfl ynX9_put ⟨Nat.le_of_ble_eq_true rfl, Nat.le_of_ble_eq_true rfl⟩) (dpV hE hP hS (ci := 9) rfl (dat10 dk_44)) rfl rfl hl.1 rfl (lv_room (Nat.le_of_ble_eq_true rfl)) dX7_draftBlock_38 ⟨Nat.le_of_ble_eq_true rfl, Nat.le_of_ble_eq_true rfl⟩) hS (fun H locs hP hS => ?_)
      obtain ⟨v17, ev17⟩ : ∃ z : Int32, z = v2 + 1 := ⟨_, rfl⟩
      have h := d_let ev17 h
      refine lv_iinc (v := v17) (lv' := [(6, .int v17), (0, .ref (dad g p0)), (1, .int p1), (2, .int p2), (3, .int p3), (4, .int p4), (5, .int p5)]) S.1 S.2.1 dX7_draftBlock_41 hl (k := 0) rfl (by rw [ev17]; rfl) (by decide) rfl (fun ls hl => ?_)
      refine lv_goto (tgt := 3) S.1 S.2.1 dX7_draftBlock_44 (by decide) ?_
      obtain rfl := Option.some.inj h
      exact hCL1 _ rfl H locs ls hP hS (lv_sub hl [0, 1, 2, 3, 4, 5, 6] rfl)
  · obtain ⟨m18, rfl⟩ : ∃ z, z = qL1 := ⟨_, rfl⟩
    have h := d_p1 h
    intro H locs ls hP hS hl
    have hP : va_P g.1 vwCl (dws g m18) H := hP
    have hl : lv_has ls 7 [] := hl
    obtain rfl := Option.some.inj h
    exact dtv S hr hlk hE hP hS dX7_draftBlock_47
set_option maxRecDepth 20000 in
theorem ggX7_draftLine_X11_downBy : GoodIn wsX7_draftLine wsX11_downBy := goodIn_r _ [4, 5, 6, 7, 8] (by decide +kernel) (by decide +kernel)
set_option maxRecDepth 20000 in
theorem gX7_draftLine_X11_downBy_n30 : GoodIn wsX7_draftLine (wsX11_downBy) := ggX7_draftLine_X11_downBy
set_option maxRecDepth 20000 in
theorem ggX7_draftLine_X9_put : GoodIn wsX7_draftLine wsX9_put := goodIn_r _ [13, 14, 15, 16, 3, 17, 21, 22] (by decide +kernel) (by decide +kernel)
set_option maxRecDepth 20000 in
theorem gX7_draftLine_X9_put : GoodIn wsX7_draftLine (wsV RX7 34 RX9 yX9_put wsX9_put) := goodIn_app (goodIn_of _ (by decide +kernel)) ggX7_draftLine_X9_put
theorem dX7_draftLine_0 : decode cX7_draftLine 0 = .ok (.iconst 0, 1) := by decide +kernel
theorem dX7_draftLine_1 : decode cX7_draftLine 1 = .ok (.istore 6, 2) := by decide +kernel
theorem dX7_draftLine_3 : decode cX7_draftLine 3 = .ok (.iload 6, 2) := by decide +kernel
theorem dX7_draftLine_5 : decode cX7_draftLine 5 = .ok (.iload 5, 2) := by decide +kernel
theorem dX7_draftLine_7 : decode cX7_draftLine 7 = .ok (.if_icmp .ge 49, 3) := by decide +kernel
theorem dX7_draftLine_10 : decode cX7_draftLine 10 = .ok (.aload_n 0, 1) := by decide +kernel
theorem dX7_draftLine_11 : decode cX7_draftLine 11 = .ok (.getfield 18, 3) := by decide +kernel
theorem dX7_draftLine_14 : decode cX7_draftLine 14 = .ok (.iload 6, 2) := by decide +kernel
theorem dX7_draftLine_16 : decode cX7_draftLine 16 = .ok (.iload_n 1, 1) := by decide +kernel
theorem dX7_draftLine_17 : decode cX7_draftLine 17 = .ok (.iload 6, 2) := by decide +kernel
theorem dX7_draftLine_19 : decode cX7_draftLine 19 = .ok (.iload_n 3, 1) := by decide +kernel
theorem dX7_draftLine_20 : decode cX7_draftLine 20 = .ok (.iload_n 1, 1) := by decide +kernel
theorem dX7_draftLine_21 : decode cX7_draftLine 21 = .ok (.isub, 1) := by decide +kernel
theorem dX7_draftLine_22 : decode cX7_draftLine 22 = .ok (.imul, 1) := by decide +kernel
theorem dX7_draftLine_23 : decode cX7_draftLine 23 = .ok (.iload 5, 2) := by decide +kernel
theorem dX7_draftLine_25 : decode cX7_draftLine 25 = .ok (.iconst 1, 1) := by decide +kernel
theorem dX7_draftLine_26 : decode cX7_draftLine 26 = .ok (.isub, 1) := by decide +kernel
theorem dX7_draftLine_27 : decode cX7_draftLine 27 = .ok (.invokestatic 30, 3) := by decide +kernel
theorem dX7_draftLine_30 : decode cX7_draftLine 30 = .ok (.iadd, 1) := by decide +kernel
theorem dX7_draftLine_31 : decode cX7_draftLine 31 = .ok (.iload_n 2, 1) := by decide +kernel
theorem dX7_draftLine_32 : decode cX7_draftLine 32 = .ok (.iload 6, 2) := by decide +kernel
theorem dX7_draftLine_34 : decode cX7_draftLine 34 = .ok (.iload 4, 2) := by decide +kernel
theorem dX7_draftLine_36 : decode cX7_draftLine 36 = .ok (.iload_n 2, 1) := by decide +kernel
theorem dX7_draftLine_37 : decode cX7_draftLine 37 = .ok (.isub, 1) := by decide +kernel
theorem dX7_draftLine_38 : decode cX7_draftLine 38 = .ok (.imul, 1) := by decide +kernel
theorem dX7_draftLine_39 : decode cX7_draftLine 39 = .ok (.iload 5, 2) := by decide +kernel
theorem dX7_draftLine_41 : decode cX7_draftLine 41 = .ok (.iconst 1, 1) := by decide +kernel
theorem dX7_draftLine_42 : decode cX7_draftLine 42 = .ok (.isub, 1) := by decide +kernel
theorem dX7_draftLine_43 : decode cX7_draftLine 43 = .ok (.invokestatic 30, 3) := by decide +kernel
theorem dX7_draftLine_46 : decode cX7_draftLine 46 = .ok (.iadd, 1) := by decide +kernel
theorem dX7_draftLine_47 : decode cX7_draftLine 47 = .ok (.invokevirtual 34, 3) := by decide +kernel
theorem dX7_draftLine_50 : decode cX7_draftLine 50 = .ok (.iinc 6 1, 3) := by decide +kernel
theorem dX7_draftLine_53 : decode cX7_draftLine 53 = .ok (.goto (-50), 3) := by decide +kernel
theorem dX7_draftLine_56 : decode cX7_draftLine 56 = .ok (.return_, 1) := by decide +kernel
def fX7_draftLine_l3 (p1 : Int32) (p2 : Int32) (p3 : Int32) (p4 : Int32) (p5 : Int32) (v2 : Int32) (m3 : dM) : Option ((Int32 × dM) ⊕ dM) := if p5 ≤ v2 then some (.inr m3) else (fX11_downBy m3 (v2 * (p3 - p1)) (p5 - 1)).bind (fun v12 => (fX11_downBy m3 (v2 * (p4 - p2)) (p5 - 1)).bind (fun v14 => (fX9_put m3 44 v2 (p1 + v12) (p2 + v14)).bind (fun m16 => dlet (v2 + 1 : Int32) (fun v17 => some (.inl (v17, m16))))))
def fX7_draftLine (m : dM) (p0 : Nat) (p1 : Int32) (p2 : Int32) (p3 : Int32) (p4 : Int32) (p5 : Int32) : Option dM := dg (dkg p0 8) ((dlp (fun q => dP2 q (fun v2 m3 => fX7_draftLine_l3 p1 p2 p3 p4 p5 v2 m3)) dFl (0, m)).bind (fun q => dP1 q (fun m18 => some m18)))
set_option maxHeartbeats 4000000 in
set_option maxRecDepth 100000 in
theorem kX7_draftLine (l : Launch) (g : dG) {m : dM} {p0 : Nat} {p1 : Int32} {p2 : Int32} {p3 : Int32} {p4 : Int32} {p5 : Int32} {m0 : dM} (h : fX7_draftLine m p0 p1 p2 p3 p4 p5 = some m0) : dMet l g yX7_draftLine wsX7_draftLine (dRm 2 43) [.ref (dad g p0), .int p1, .int p2, .int p3, .int p4, .int p5] m (dQV g m0) := by
  refine dof (cc := cX7_draftLine) (maxL := 7) (ret := none) _ (plainFor_of_name (by decide)) rfl (Nat.le_of_ble_eq_true rfl) ?_
  intro p e s mth below meth c S hr hlk hE H ls hP hS hl
  have S : CallFix p mth c cX7_draftLine 7 s _ wsX7_draftLine RX7 := S
  have hl : lv_has ls 7 [(0, .ref (dad g p0)), (1, .int p1), (2, .int p2), (3, .int p3), (4, .int p4), (5, .int p5)] := hl
  obtain ⟨locs, hlocs⟩ : ∃ z : List Loc, z = [] := ⟨_, rfl⟩
  rw [← hlocs] at hS ⊢
  have in7 : ∀ w ∈ wsX70, w ∈ wsX7_draftLine := by decide +kernel
  unfold fX7_draftLine at h
  obtain ⟨k0, h⟩ := d_g h
  have k0 := d_k k0
  refine lv_iconst (v := 0) S.1 S.2.1 dX7_draftLine_0 (by decide) ?_
  refine lv_istore (lv' := [(6, .int 0), (0, .ref (dad g p0)), (1, .int p1), (2, .int p2), (3, .int p3), (4, .int p4), (5, .int p5)]) S.1 S.2.1 dX7_draftLine_1 hl (by decide) rfl (fun ls hl => ?_)
  obtain ⟨qL1, hqL1, h⟩ := d_b h
  refine d_lp (Hd := fun q => match q with | (v2, m3) => ∀ (H : Heap) (locs : List Loc) (ls : Array Slot), va_P g.1 vwCl (dws g m3) H → va_S (dA g) s.heap H locs → lv_has ls 7 [(6, .int v2), (0, .ref (dad g p0)), (1, .int p1), (2, .int p2), (3, .int p3), (4, .int p4), (5, .int p5)] → W p l e (headSpec wsX7_draftLine (dRm 2 43)).room s mth (([.ref (dad g p0), .int p1, .int p2, .int p3, .int p4, .int p5] : List Value).toArray) below meth c H locs 0 0 (MQ below (dQV g m0) (([.ref (dad g p0), .int p1, .int p2, .int p3, .int p4, .int p5] : List Value).toArray) s 0 0 (dA g)) (F0 mth 3 ls [])) (K := fun q => (fun (m18 : _) => ∀ (H : Heap) (locs : List Loc) (ls : Array Slot), va_P g.1 vwCl (dws g m18) H → va_S (dA g) s.heap H locs → lv_has ls 7 [] → W p l e (headSpec wsX7_draftLine (dRm 2 43)).room s mth (([.ref (dad g p0), .int p1, .int p2, .int p3, .int p4, .int p5] : List Value).toArray) below meth c H locs 0 0 (MQ below (dQV g m0) (([.ref (dad g p0), .int p1, .int p2, .int p3, .int p4, .int p5] : List Value).toArray) s 0 0 (dA g)) (F0 mth 56 ls [])) q) ?_ dFl _ qL1 hqL1 ?_ H locs ls hP hS (lv_sub hl [0, 1, 2, 3, 4, 5, 6] rfl)
  · intro q o h hCL1 hEL1
    obtain ⟨v2, m3⟩ := q
    have h : fX7_draftLine_l3 p1 p2 p3 p4 p5 v2 m3 = some o := h
    intro H locs ls hP hS hl
    have hP : va_P g.1 vwCl (dws g m3) H := hP
    have hl : lv_has ls 7 [(6, .int v2), (0, .ref (dad g p0)), (1, .int p1), (2, .int p2), (3, .int p3), (4, .int p4), (5, .int p5)] := hl
    unfold fX7_draftLine_l3 at h
    refine lv_iload S.1 S.2.1 dX7_draftLine_3 (lv_at hl 0 rfl) ?_
    refine lv_iload S.1 S.2.1 dX7_draftLine_5 (lv_at hl 6 rfl) ?_
    refine lv_icmp_ge (tgt := 56) S.1 S.2.1 dX7_draftLine_7 (by decide) (fun cq => ?_) (fun cq => ?_)
    · have h := d_t cq h
      obtain rfl := Option.some.inj h
      exact hEL1 _ rfl H locs ls hP hS (lv_sub hl [] rfl)
    · have h := d_f cq h
      refine lv_aload_n S.1 S.2.1 dX7_draftLine_10 rfl (lv_at hl 1 rfl) ?_
      refine dgf7_1 S in7 hE hP k0 (S.2.2.2.2 (.fieldLink RX7 18 "DrillField$Sets" "draft" "LDrillField$Spots;") (List.mem_of_getElem? (i := 1) rfl)) dX7_draftLine_11 ?_
      refine lv_iload S.1 S.2.1 dX7_draftLine_14 (lv_at hl 0 rfl) ?_
      refine lv_iload_n S.1 S.2.1 dX7_draftLine_16 rfl (lv_at hl 2 rfl) ?_
      refine lv_iload S.1 S.2.1 dX7_draftLine_17 (lv_at hl 0 rfl) ?_
      refine lv_iload_n S.1 S.2.1 dX7_draftLine_19 rfl (lv_at hl 4 rfl) ?_
      refine lv_iload_n S.1 S.2.1 dX7_draftLine_20 rfl (lv_at hl 2 rfl) ?_
      refine lv_isub S.1 S.2.1 dX7_draftLine_21 ?_
      refine lv_imul S.1 S.2.1 dX7_draftLine_22 ?_
      refine lv_iload S.1 S.2.1 dX7_draftLine_23 (lv_at hl 6 rfl) ?_
      refine lv_iconst (v := 1) S.1 S.2.1 dX7_draftLine_25 (by decide) ?_
      refine lv_isub S.1 S.2.1 dX7_draftLine_26 ?_
      obtain ⟨v12, hc11, h⟩ := d_b h
      refine dri (va_runSN (As := [.int (v2 * (p3 - p1)), .int (p5 - 1)]) (rest := [.int p1, .int v2, .ref (dad g 44)]) S (kX11_downBy l g hc11) ⟨va_cnB 2 S.2.2.2.2 gX7_draftLine_X11_downBy_n30 rfl rfl rfl (dnq_RX7_30 hE) (S.2.2.2.2 (.initialized RX11) (List.mem_of_getElem? (i := 3) rfl)) ynX11_downBy ⟨Nat.le_of_ble_eq_true rfl, Nat.le_of_ble_eq_true rfl⟩, S.2.2.2.2 (.static yX11_downBy) (List.mem_of_getElem? (i := 2) rfl), trivial⟩ (dpS hE hP hS) rfl rfl hl.1 rfl (lv_room (Nat.le_of_ble_eq_true rfl)) dX7_draftLine_27 ⟨Nat.le_of_ble_eq_true rfl, Nat.le_of_ble_eq_true rfl⟩) hS (fun H locs hP hS => ?_)
      refine lv_iadd S.1 S.2.1 dX7_draftLine_30 ?_
      refine lv_iload_n S.1 S.2.1 dX7_draftLine_31 rfl (lv_at hl 3 rfl) ?_
      refine lv_iload S.1 S.2.1 dX7_draftLine_32 (lv_at hl 0 rfl) ?_
      refine lv_iload S.1 S.2.1 dX7_draftLine_34 (lv_at hl 5 rfl) ?_
      refine lv_iload_n S.1 S.2.1 dX7_draftLine_36 rfl (lv_at hl 3 rfl) ?_
      refine lv_isub S.1 S.2.1 dX7_draftLine_37 ?_
      refine lv_imul S.1 S.2.1 dX7_draftLine_38 ?_
      refine lv_iload S.1 S.2.1 dX7_draftLine_39 (lv_at hl 6 rfl) ?_
      refine lv_iconst (v := 1) S.1 S.2.1 dX7_draftLine_41 (by decide) ?_
      refine lv_isub S.1 S.2.1 dX7_draftLine_42 ?_
      obtain ⟨v14, hc13, h⟩ := d_b h
      refine dri (va_runSN (As := [.int (v2 * (p4 - p2)), .int (p5 - 1)]) (rest := [.int p2, .int (p1 + v12), .int v2, .ref (dad g 44)]) S (kX11_downBy l g hc13) ⟨va_cnB 2 S.2.2.2.2 gX7_draftLine_X11_downBy_n30 rfl rfl rfl (dnq_RX7_30 hE) (S.2.2.2.2 (.initialized RX11) (List.mem_of_getElem? (i := 3) rfl)) ynX11_downBy ⟨Nat.le_of_ble_eq_true rfl, Nat.le_of_ble_eq_true rfl⟩, S.2.2.2.2 (.static yX11_downBy) (List.mem_of_getElem? (i := 2) rfl), trivial⟩ (dpS hE hP hS) rfl rfl hl.1 rfl (lv_room (Nat.le_of_ble_eq_true rfl)) dX7_draftLine_43 ⟨Nat.le_of_ble_eq_true rfl, Nat.le_of_ble_eq_true rfl⟩) hS (fun H locs hP hS => ?_)
      refine lv_iadd S.1 S.2.1 dX7_draftLine_46 ?_
      obtain ⟨m16, hc15, h⟩ := d_b h
      refine drv (va_runV (As := [.int v2, .int (p1 + v12), .int (p2 + v14)]) (rest := []) S (kX9_put l g hc15) (cwV 3 S.2.2.2.2 gX7_draftLine_X9_put rfl rfl rfl ynX9_put ⟨Nat.le_of_ble_eq_true rfl, Nat.le_of_ble_eq_true rfl⟩) (dpV hE hP hS (ci := 9) rfl (dat10 dk_44)) rfl rfl hl.1 rfl (lv_room (Nat.le_of_ble_eq_true rfl)) dX7_draftLine_47 ⟨Nat.le_of_ble_eq_true rfl, Nat.le_of_ble_eq_true rfl⟩) hS (fun H locs hP hS => ?_)
      obtain ⟨v17, ev17⟩ : ∃ z : Int32, z = v2 + 1 := ⟨_, rfl⟩
      have h := d_let ev17 h
      refine lv_iinc (v := v17) (lv' := [(6, .int v17), (0, .ref (dad g p0)), (1, .int p1), (2, .int p2), (3, .int p3), (4, .int p4), (5, .int p5)]) S.1 S.2.1 dX7_draftLine_50 hl (k := 0) rfl (by rw [ev17]; rfl) (by decide) rfl (fun ls hl => ?_)
      refine lv_goto (tgt := 3) S.1 S.2.1 dX7_draftLine_53 (by decide) ?_
      obtain rfl := Option.some.inj h
      exact hCL1 _ rfl H locs ls hP hS (lv_sub hl [0, 1, 2, 3, 4, 5, 6] rfl)
  · obtain ⟨m18, rfl⟩ : ∃ z, z = qL1 := ⟨_, rfl⟩
    have h := d_p1 h
    intro H locs ls hP hS hl
    have hP : va_P g.1 vwCl (dws g m18) H := hP
    have hl : lv_has ls 7 [] := hl
    obtain rfl := Option.some.inj h
    exact dtv S hr hlk hE hP hS dX7_draftLine_56
set_option maxRecDepth 20000 in
theorem ggX7_draftWedge_X11_downBy : GoodIn wsX7_draftWedge wsX11_downBy := goodIn_r _ [4, 5, 6, 7, 8] (by decide +kernel) (by decide +kernel)
set_option maxRecDepth 20000 in
theorem gX7_draftWedge_X11_downBy_n30 : GoodIn wsX7_draftWedge (wsX11_downBy) := ggX7_draftWedge_X11_downBy
set_option maxRecDepth 20000 in
theorem ggX7_draftWedge_X11_restBy : GoodIn wsX7_draftWedge wsX11_restBy := goodIn_r _ [10, 11, 12, 7, 13] (by decide +kernel) (by decide +kernel)
set_option maxRecDepth 20000 in
theorem gX7_draftWedge_X11_restBy_n38 : GoodIn wsX7_draftWedge (wsX11_restBy) := ggX7_draftWedge_X11_restBy
set_option maxRecDepth 20000 in
theorem ggX7_draftWedge_X9_put : GoodIn wsX7_draftWedge wsX9_put := goodIn_r _ [18, 19, 20, 21, 3, 22, 26, 27] (by decide +kernel) (by decide +kernel)
set_option maxRecDepth 20000 in
theorem gX7_draftWedge_X9_put : GoodIn wsX7_draftWedge (wsV RX7 34 RX9 yX9_put wsX9_put) := goodIn_app (goodIn_of _ (by decide +kernel)) ggX7_draftWedge_X9_put
theorem dX7_draftWedge_0 : decode cX7_draftWedge 0 = .ok (.iconst 0, 1) := by decide +kernel
theorem dX7_draftWedge_1 : decode cX7_draftWedge 1 = .ok (.istore 5, 2) := by decide +kernel
theorem dX7_draftWedge_3 : decode cX7_draftWedge 3 = .ok (.iload 5, 2) := by decide +kernel
theorem dX7_draftWedge_5 : decode cX7_draftWedge 5 = .ok (.iload 4, 2) := by decide +kernel
theorem dX7_draftWedge_7 : decode cX7_draftWedge 7 = .ok (.if_icmp .ge 62, 3) := by decide +kernel
theorem dX7_draftWedge_10 : decode cX7_draftWedge 10 = .ok (.iload 5, 2) := by decide +kernel
theorem dX7_draftWedge_12 : decode cX7_draftWedge 12 = .ok (.iconst 1, 1) := by decide +kernel
theorem dX7_draftWedge_13 : decode cX7_draftWedge 13 = .ok (.iadd, 1) := by decide +kernel
theorem dX7_draftWedge_14 : decode cX7_draftWedge 14 = .ok (.iconst 2, 1) := by decide +kernel
theorem dX7_draftWedge_15 : decode cX7_draftWedge 15 = .ok (.invokestatic 30, 3) := by decide +kernel
theorem dX7_draftWedge_18 : decode cX7_draftWedge 18 = .ok (.istore 6, 2) := by decide +kernel
theorem dX7_draftWedge_20 : decode cX7_draftWedge 20 = .ok (.iload 5, 2) := by decide +kernel
theorem dX7_draftWedge_22 : decode cX7_draftWedge 22 = .ok (.iconst 2, 1) := by decide +kernel
theorem dX7_draftWedge_23 : decode cX7_draftWedge 23 = .ok (.invokestatic 38, 3) := by decide +kernel
theorem dX7_draftWedge_26 : decode cX7_draftWedge 26 = .ok (.iconst 1, 1) := by decide +kernel
theorem dX7_draftWedge_27 : decode cX7_draftWedge 27 = .ok (.if_icmp .ne 11, 3) := by decide +kernel
theorem dX7_draftWedge_30 : decode cX7_draftWedge 30 = .ok (.iload_n 3, 1) := by decide +kernel
theorem dX7_draftWedge_31 : decode cX7_draftWedge 31 = .ok (.ineg, 1) := by decide +kernel
theorem dX7_draftWedge_32 : decode cX7_draftWedge 32 = .ok (.iload 6, 2) := by decide +kernel
theorem dX7_draftWedge_34 : decode cX7_draftWedge 34 = .ok (.imul, 1) := by decide +kernel
theorem dX7_draftWedge_35 : decode cX7_draftWedge 35 = .ok (.goto 7, 3) := by decide +kernel
theorem dX7_draftWedge_38 : decode cX7_draftWedge 38 = .ok (.iload_n 3, 1) := by decide +kernel
theorem dX7_draftWedge_39 : decode cX7_draftWedge 39 = .ok (.iload 6, 2) := by decide +kernel
theorem dX7_draftWedge_41 : decode cX7_draftWedge 41 = .ok (.imul, 1) := by decide +kernel
theorem dX7_draftWedge_42 : decode cX7_draftWedge 42 = .ok (.istore 7, 2) := by decide +kernel
theorem dX7_draftWedge_44 : decode cX7_draftWedge 44 = .ok (.aload_n 0, 1) := by decide +kernel
theorem dX7_draftWedge_45 : decode cX7_draftWedge 45 = .ok (.getfield 18, 3) := by decide +kernel
theorem dX7_draftWedge_48 : decode cX7_draftWedge 48 = .ok (.iload 5, 2) := by decide +kernel
theorem dX7_draftWedge_50 : decode cX7_draftWedge 50 = .ok (.iload_n 1, 1) := by decide +kernel
theorem dX7_draftWedge_51 : decode cX7_draftWedge 51 = .ok (.iload 7, 2) := by decide +kernel
theorem dX7_draftWedge_53 : decode cX7_draftWedge 53 = .ok (.iadd, 1) := by decide +kernel
theorem dX7_draftWedge_54 : decode cX7_draftWedge 54 = .ok (.iload_n 2, 1) := by decide +kernel
theorem dX7_draftWedge_55 : decode cX7_draftWedge 55 = .ok (.iload_n 3, 1) := by decide +kernel
theorem dX7_draftWedge_56 : decode cX7_draftWedge 56 = .ok (.iload 6, 2) := by decide +kernel
theorem dX7_draftWedge_58 : decode cX7_draftWedge 58 = .ok (.imul, 1) := by decide +kernel
theorem dX7_draftWedge_59 : decode cX7_draftWedge 59 = .ok (.iadd, 1) := by decide +kernel
theorem dX7_draftWedge_60 : decode cX7_draftWedge 60 = .ok (.invokevirtual 34, 3) := by decide +kernel
theorem dX7_draftWedge_63 : decode cX7_draftWedge 63 = .ok (.iinc 5 1, 3) := by decide +kernel
theorem dX7_draftWedge_66 : decode cX7_draftWedge 66 = .ok (.goto (-63), 3) := by decide +kernel
theorem dX7_draftWedge_69 : decode cX7_draftWedge 69 = .ok (.return_, 1) := by decide +kernel
def fX7_draftWedge_l3 (p1 : Int32) (p2 : Int32) (p3 : Int32) (p4 : Int32) (v2 : Int32) (m3 : dM) : Option ((Int32 × dM) ⊕ dM) := if p4 ≤ v2 then some (.inr m3) else (fX11_downBy m3 (v2 + 1) 2).bind (fun v17 => (fX11_restBy m3 v2 2).bind (fun v19 => if v19 = 1 then dlet ((-p3) * v17 : Int32) (fun v24 => (fX9_put m3 44 v2 (p1 + v24) (p2 + (p3 * v17))).bind (fun m26 => dlet (v2 + 1 : Int32) (fun v27 => some (.inl (v27, m26))))) else dlet (p3 * v17 : Int32) (fun v20 => (fX9_put m3 44 v2 (p1 + v20) (p2 + (p3 * v17))).bind (fun m22 => dlet (v2 + 1 : Int32) (fun v23 => some (.inl (v23, m22)))))))
def fX7_draftWedge (m : dM) (p0 : Nat) (p1 : Int32) (p2 : Int32) (p3 : Int32) (p4 : Int32) : Option dM := dg (dkg p0 8) ((dlp (fun q => dP2 q (fun v2 m3 => fX7_draftWedge_l3 p1 p2 p3 p4 v2 m3)) dFl (0, m)).bind (fun q => dP1 q (fun m28 => some m28)))
set_option maxHeartbeats 4000000 in
set_option maxRecDepth 100000 in
theorem kX7_draftWedge (l : Launch) (g : dG) {m : dM} {p0 : Nat} {p1 : Int32} {p2 : Int32} {p3 : Int32} {p4 : Int32} {m0 : dM} (h : fX7_draftWedge m p0 p1 p2 p3 p4 = some m0) : dMet l g yX7_draftWedge wsX7_draftWedge (dRm 2 43) [.ref (dad g p0), .int p1, .int p2, .int p3, .int p4] m (dQV g m0) := by
  refine dof (cc := cX7_draftWedge) (maxL := 8) (ret := none) _ (plainFor_of_name (by decide)) rfl (Nat.le_of_ble_eq_true rfl) ?_
  intro p e s mth below meth c S hr hlk hE H ls hP hS hl
  have S : CallFix p mth c cX7_draftWedge 8 s _ wsX7_draftWedge RX7 := S
  have hl : lv_has ls 8 [(0, .ref (dad g p0)), (1, .int p1), (2, .int p2), (3, .int p3), (4, .int p4)] := hl
  obtain ⟨locs, hlocs⟩ : ∃ z : List Loc, z = [] := ⟨_, rfl⟩
  rw [← hlocs] at hS ⊢
  have in7 : ∀ w ∈ wsX70, w ∈ wsX7_draftWedge := by decide +kernel
  unfold fX7_draftWedge at h
  obtain ⟨k0, h⟩ := d_g h
  have k0 := d_k k0
  refine lv_iconst (v := 0) S.1 S.2.1 dX7_draftWedge_0 (by decide) ?_
  refine lv_istore (lv' := [(5, .int 0), (0, .ref (dad g p0)), (1, .int p1), (2, .int p2), (3, .int p3), (4, .int p4)]) S.1 S.2.1 dX7_draftWedge_1 hl (by decide) rfl (fun ls hl => ?_)
  obtain ⟨qL1, hqL1, h⟩ := d_b h
  refine d_lp (Hd := fun q => match q with | (v2, m3) => ∀ (H : Heap) (locs : List Loc) (ls : Array Slot), va_P g.1 vwCl (dws g m3) H → va_S (dA g) s.heap H locs → lv_has ls 8 [(5, .int v2), (0, .ref (dad g p0)), (1, .int p1), (2, .int p2), (3, .int p3), (4, .int p4)] → W p l e (headSpec wsX7_draftWedge (dRm 2 43)).room s mth (([.ref (dad g p0), .int p1, .int p2, .int p3, .int p4] : List Value).toArray) below meth c H locs 0 0 (MQ below (dQV g m0) (([.ref (dad g p0), .int p1, .int p2, .int p3, .int p4] : List Value).toArray) s 0 0 (dA g)) (F0 mth 3 ls [])) (K := fun q => (fun (m28 : _) => ∀ (H : Heap) (locs : List Loc) (ls : Array Slot), va_P g.1 vwCl (dws g m28) H → va_S (dA g) s.heap H locs → lv_has ls 8 [] → W p l e (headSpec wsX7_draftWedge (dRm 2 43)).room s mth (([.ref (dad g p0), .int p1, .int p2, .int p3, .int p4] : List Value).toArray) below meth c H locs 0 0 (MQ below (dQV g m0) (([.ref (dad g p0), .int p1, .int p2, .int p3, .int p4] : List Value).toArray) s 0 0 (dA g)) (F0 mth 69 ls [])) q) ?_ dFl _ qL1 hqL1 ?_ H locs ls hP hS (lv_sub hl [0, 1, 2, 3, 4, 5] rfl)
  · intro q o h hCL1 hEL1
    obtain ⟨v2, m3⟩ := q
    have h : fX7_draftWedge_l3 p1 p2 p3 p4 v2 m3 = some o := h
    intro H locs ls hP hS hl
    have hP : va_P g.1 vwCl (dws g m3) H := hP
    have hl : lv_has ls 8 [(5, .int v2), (0, .ref (dad g p0)), (1, .int p1), (2, .int p2), (3, .int p3), (4, .int p4)] := hl
    unfold fX7_draftWedge_l3 at h
    refine lv_iload S.1 S.2.1 dX7_draftWedge_3 (lv_at hl 0 rfl) ?_
    refine lv_iload S.1 S.2.1 dX7_draftWedge_5 (lv_at hl 5 rfl) ?_
    refine lv_icmp_ge (tgt := 69) S.1 S.2.1 dX7_draftWedge_7 (by decide) (fun cq => ?_) (fun cq => ?_)
    · have h := d_t cq h
      obtain rfl := Option.some.inj h
      exact hEL1 _ rfl H locs ls hP hS (lv_sub hl [] rfl)
    · have h := d_f cq h
      refine lv_iload S.1 S.2.1 dX7_draftWedge_10 (lv_at hl 0 rfl) ?_
      refine lv_iconst (v := 1) S.1 S.2.1 dX7_draftWedge_12 (by decide) ?_
      refine lv_iadd S.1 S.2.1 dX7_draftWedge_13 ?_
      refine lv_iconst (v := 2) S.1 S.2.1 dX7_draftWedge_14 (by decide) ?_
      obtain ⟨v17, hc16, h⟩ := d_b h
      refine dri (va_runSN (As := [.int (v2 + 1), .int 2]) (rest := []) S (kX11_downBy l g hc16) ⟨va_cnB 2 S.2.2.2.2 gX7_draftWedge_X11_downBy_n30 rfl rfl rfl (dnq_RX7_30 hE) (S.2.2.2.2 (.initialized RX11) (List.mem_of_getElem? (i := 3) rfl)) ynX11_downBy ⟨Nat.le_of_ble_eq_true rfl, Nat.le_of_ble_eq_true rfl⟩, S.2.2.2.2 (.static yX11_downBy) (List.mem_of_getElem? (i := 2) rfl), trivial⟩ (dpS hE hP hS) rfl rfl hl.1 rfl (lv_room (Nat.le_of_ble_eq_true rfl)) dX7_draftWedge_15 ⟨Nat.le_of_ble_eq_true rfl, Nat.le_of_ble_eq_true rfl⟩) hS (fun H locs hP hS => ?_)
      refine lv_istore (lv' := [(6, .int v17), (5, .int v2), (0, .ref (dad g p0)), (1, .int p1), (2, .int p2), (3, .int p3), (4, .int p4)]) S.1 S.2.1 dX7_draftWedge_18 hl (by decide) rfl (fun ls hl => ?_)
      refine lv_iload S.1 S.2.1 dX7_draftWedge_20 (lv_at hl 1 rfl) ?_
      refine lv_iconst (v := 2) S.1 S.2.1 dX7_draftWedge_22 (by decide) ?_
      obtain ⟨v19, hc18, h⟩ := d_b h
      refine dri (va_runSN (As := [.int v2, .int 2]) (rest := []) S (kX11_restBy l g hc18) ⟨va_cnB 2 S.2.2.2.2 gX7_draftWedge_X11_restBy_n38 rfl rfl rfl (dnq_RX7_38 hE) (S.2.2.2.2 (.initialized RX11) (List.mem_of_getElem? (i := 3) rfl)) ynX11_restBy ⟨Nat.le_of_ble_eq_true rfl, Nat.le_of_ble_eq_true rfl⟩, S.2.2.2.2 (.static yX11_restBy) (List.mem_of_getElem? (i := 9) rfl), trivial⟩ (dpS hE hP hS) rfl rfl hl.1 rfl (lv_room (Nat.le_of_ble_eq_true rfl)) dX7_draftWedge_23 ⟨Nat.le_of_ble_eq_true rfl, Nat.le_of_ble_eq_true rfl⟩) hS (fun H locs hP hS => ?_)
      refine lv_iconst (v := 1) S.1 S.2.1 dX7_draftWedge_26 (by decide) ?_
      refine lv_icmp_ne (tgt := 38) S.1 S.2.1 dX7_draftWedge_27 (by decide) (fun cq => ?_) (fun cq => ?_)
      · have h := d_f cq h
        refine lv_iload_n S.1 S.2.1 dX7_draftWedge_38 rfl (lv_at hl 5 rfl) ?_
        refine lv_iload S.1 S.2.1 dX7_draftWedge_39 (lv_at hl 0 rfl) ?_
        refine lv_imul S.1 S.2.1 dX7_draftWedge_41 ?_
        refine lv_topi (fun v20 ev20 => ?_)
        have h := d_let ev20 h
        refine lv_istore (lv' := [(7, .int v20), (6, .int v17), (5, .int v2), (0, .ref (dad g p0)), (1, .int p1), (2, .int p2), (3, .int p3), (4, .int p4)]) S.1 S.2.1 dX7_draftWedge_42 hl (by decide) rfl (fun ls hl => ?_)
        refine lv_aload_n S.1 S.2.1 dX7_draftWedge_44 rfl (lv_at hl 3 rfl) ?_
        refine dgf7_1 S in7 hE hP k0 (S.2.2.2.2 (.fieldLink RX7 18 "DrillField$Sets" "draft" "LDrillField$Spots;") (List.mem_of_getElem? (i := 1) rfl)) dX7_draftWedge_45 ?_
        refine lv_iload S.1 S.2.1 dX7_draftWedge_48 (lv_at hl 2 rfl) ?_
        refine lv_iload_n S.1 S.2.1 dX7_draftWedge_50 rfl (lv_at hl 4 rfl) ?_
        refine lv_iload S.1 S.2.1 dX7_draftWedge_51 (lv_at hl 0 rfl) ?_
        refine lv_iadd S.1 S.2.1 dX7_draftWedge_53 ?_
        refine lv_iload_n S.1 S.2.1 dX7_draftWedge_54 rfl (lv_at hl 5 rfl) ?_
        refine lv_iload_n S.1 S.2.1 dX7_draftWedge_55 rfl (lv_at hl 6 rfl) ?_
        refine lv_iload S.1 S.2.1 dX7_draftWedge_56 (lv_at hl 1 rfl) ?_
        refine lv_imul S.1 S.2.1 dX7_draftWedge_58 ?_
        refine lv_iadd S.1 S.2.1 dX7_draftWedge_59 ?_
        obtain ⟨m22, hc21, h⟩ := d_b h
        refine drv (va_runV (As := [.int v2, .int (p1 + v20), .int (p2 + (p3 * v17))]) (rest := []) S (kX9_put l g hc21) (cwV 3 S.2.2.2.2 gX7_draftWedge_X9_put rfl rfl rfl ynX9_put ⟨Nat.le_of_ble_eq_true rfl, Nat.le_of_ble_eq_true rfl⟩) (dpV hE hP hS (ci := 9) rfl (dat10 dk_44)) rfl rfl hl.1 rfl (lv_room (Nat.le_of_ble_eq_true rfl)) dX7_draftWedge_60 ⟨Nat.le_of_ble_eq_true rfl, Nat.le_of_ble_eq_true rfl⟩) hS (fun H locs hP hS => ?_)
        obtain ⟨v23, ev23⟩ : ∃ z : Int32, z = v2 + 1 := ⟨_, rfl⟩
        have h := d_let ev23 h
        refine lv_iinc (v := v23) (lv' := [(5, .int v23), (7, .int v20), (6, .int v17), (0, .ref (dad g p0)), (1, .int p1), (2, .int p2), (3, .int p3), (4, .int p4)]) S.1 S.2.1 dX7_draftWedge_63 hl (k := 2) rfl (by rw [ev23]; rfl) (by decide) rfl (fun ls hl => ?_)
        refine lv_goto (tgt := 3) S.1 S.2.1 dX7_draftWedge_66 (by decide) ?_
        obtain rfl := Option.some.inj h
        exact hCL1 _ rfl H locs ls hP hS (lv_sub hl [0, 3, 4, 5, 6, 7] rfl)
      · have h := d_t cq h
        refine lv_iload_n S.1 S.2.1 dX7_draftWedge_30 rfl (lv_at hl 5 rfl) ?_
        refine lv_ineg S.1 S.2.1 dX7_draftWedge_31 ?_
        refine lv_iload S.1 S.2.1 dX7_draftWedge_32 (lv_at hl 0 rfl) ?_
        refine lv_imul S.1 S.2.1 dX7_draftWedge_34 ?_
        refine lv_goto (tgt := 42) S.1 S.2.1 dX7_draftWedge_35 (by decide) ?_
        refine lv_topi (fun v24 ev24 => ?_)
        have h := d_let ev24 h
        refine lv_istore (lv' := [(7, .int v24), (6, .int v17), (5, .int v2), (0, .ref (dad g p0)), (1, .int p1), (2, .int p2), (3, .int p3), (4, .int p4)]) S.1 S.2.1 dX7_draftWedge_42 hl (by decide) rfl (fun ls hl => ?_)
        refine lv_aload_n S.1 S.2.1 dX7_draftWedge_44 rfl (lv_at hl 3 rfl) ?_
        refine dgf7_1 S in7 hE hP k0 (S.2.2.2.2 (.fieldLink RX7 18 "DrillField$Sets" "draft" "LDrillField$Spots;") (List.mem_of_getElem? (i := 1) rfl)) dX7_draftWedge_45 ?_
        refine lv_iload S.1 S.2.1 dX7_draftWedge_48 (lv_at hl 2 rfl) ?_
        refine lv_iload_n S.1 S.2.1 dX7_draftWedge_50 rfl (lv_at hl 4 rfl) ?_
        refine lv_iload S.1 S.2.1 dX7_draftWedge_51 (lv_at hl 0 rfl) ?_
        refine lv_iadd S.1 S.2.1 dX7_draftWedge_53 ?_
        refine lv_iload_n S.1 S.2.1 dX7_draftWedge_54 rfl (lv_at hl 5 rfl) ?_
        refine lv_iload_n S.1 S.2.1 dX7_draftWedge_55 rfl (lv_at hl 6 rfl) ?_
        refine lv_iload S.1 S.2.1 dX7_draftWedge_56 (lv_at hl 1 rfl) ?_
        refine lv_imul S.1 S.2.1 dX7_draftWedge_58 ?_
        refine lv_iadd S.1 S.2.1 dX7_draftWedge_59 ?_
        obtain ⟨m26, hc25, h⟩ := d_b h
        refine drv (va_runV (As := [.int v2, .int (p1 + v24), .int (p2 + (p3 * v17))]) (rest := []) S (kX9_put l g hc25) (cwV 3 S.2.2.2.2 gX7_draftWedge_X9_put rfl rfl rfl ynX9_put ⟨Nat.le_of_ble_eq_true rfl, Nat.le_of_ble_eq_true rfl⟩) (dpV hE hP hS (ci := 9) rfl (dat10 dk_44)) rfl rfl hl.1 rfl (lv_room (Nat.le_of_ble_eq_true rfl)) dX7_draftWedge_60 ⟨Nat.le_of_ble_eq_true rfl, Nat.le_of_ble_eq_true rfl⟩) hS (fun H locs hP hS => ?_)
        obtain ⟨v27, ev27⟩ : ∃ z : Int32, z = v2 + 1 := ⟨_, rfl⟩
        have h := d_let ev27 h
        refine lv_iinc (v := v27) (lv' := [(5, .int v27), (7, .int v24), (6, .int v17), (0, .ref (dad g p0)), (1, .int p1), (2, .int p2), (3, .int p3), (4, .int p4)]) S.1 S.2.1 dX7_draftWedge_63 hl (k := 2) rfl (by rw [ev27]; rfl) (by decide) rfl (fun ls hl => ?_)
        refine lv_goto (tgt := 3) S.1 S.2.1 dX7_draftWedge_66 (by decide) ?_
        obtain rfl := Option.some.inj h
        exact hCL1 _ rfl H locs ls hP hS (lv_sub hl [0, 3, 4, 5, 6, 7] rfl)
  · obtain ⟨m28, rfl⟩ : ∃ z, z = qL1 := ⟨_, rfl⟩
    have h := d_p1 h
    intro H locs ls hP hS hl
    have hP : va_P g.1 vwCl (dws g m28) H := hP
    have hl : lv_has ls 8 [] := hl
    obtain rfl := Option.some.inj h
    exact dtv S hr hlk hE hP hS dX7_draftWedge_69
set_option maxRecDepth 20000 in
theorem ggX7_isDraftOnField_X9_x : GoodIn wsX7_isDraftOnField wsX9_x := goodIn_r _ [6, 7, 8, 9, 10, 24, 25] (by decide +kernel) (by decide +kernel)
set_option maxRecDepth 20000 in
theorem gX7_isDraftOnField_X9_x : GoodIn wsX7_isDraftOnField (wsV RX7 41 RX9 yX9_x wsX9_x) := goodIn_app (goodIn_of _ (by decide +kernel)) ggX7_isDraftOnField_X9_x
set_option maxRecDepth 20000 in
theorem ggX7_isDraftOnField_X9_y : GoodIn wsX7_isDraftOnField wsX9_y := goodIn_r _ [14, 15, 8, 9, 10, 24, 25] (by decide +kernel) (by decide +kernel)
set_option maxRecDepth 20000 in
theorem gX7_isDraftOnField_X9_y : GoodIn wsX7_isDraftOnField (wsV RX7 45 RX9 yX9_y wsX9_y) := goodIn_app (goodIn_of _ (by decide +kernel)) ggX7_isDraftOnField_X9_y
set_option maxRecDepth 20000 in
theorem ggX7_isDraftOnField_X11_isOnField : GoodIn wsX7_isDraftOnField wsX11_isOnField := goodIn_r _ [17, 18, 19, 9, 20] (by decide +kernel) (by decide +kernel)
set_option maxRecDepth 20000 in
theorem gX7_isDraftOnField_X11_isOnField_n48 : GoodIn wsX7_isDraftOnField (wsX11_isOnField) := ggX7_isDraftOnField_X11_isOnField
theorem dX7_isDraftOnField_0 : decode cX7_isDraftOnField 0 = .ok (.iconst 0, 1) := by decide +kernel
theorem dX7_isDraftOnField_1 : decode cX7_isDraftOnField 1 = .ok (.istore_n 2, 1) := by decide +kernel
theorem dX7_isDraftOnField_2 : decode cX7_isDraftOnField 2 = .ok (.iload_n 2, 1) := by decide +kernel
theorem dX7_isDraftOnField_3 : decode cX7_isDraftOnField 3 = .ok (.iload_n 1, 1) := by decide +kernel
theorem dX7_isDraftOnField_4 : decode cX7_isDraftOnField 4 = .ok (.if_icmp .ge 33, 3) := by decide +kernel
theorem dX7_isDraftOnField_7 : decode cX7_isDraftOnField 7 = .ok (.aload_n 0, 1) := by decide +kernel
theorem dX7_isDraftOnField_8 : decode cX7_isDraftOnField 8 = .ok (.getfield 18, 3) := by decide +kernel
theorem dX7_isDraftOnField_11 : decode cX7_isDraftOnField 11 = .ok (.iload_n 2, 1) := by decide +kernel
theorem dX7_isDraftOnField_12 : decode cX7_isDraftOnField 12 = .ok (.invokevirtual 41, 3) := by decide +kernel
theorem dX7_isDraftOnField_15 : decode cX7_isDraftOnField 15 = .ok (.aload_n 0, 1) := by decide +kernel
theorem dX7_isDraftOnField_16 : decode cX7_isDraftOnField 16 = .ok (.getfield 18, 3) := by decide +kernel
theorem dX7_isDraftOnField_19 : decode cX7_isDraftOnField 19 = .ok (.iload_n 2, 1) := by decide +kernel
theorem dX7_isDraftOnField_20 : decode cX7_isDraftOnField 20 = .ok (.invokevirtual 45, 3) := by decide +kernel
theorem dX7_isDraftOnField_23 : decode cX7_isDraftOnField 23 = .ok (.invokestatic 48, 3) := by decide +kernel
theorem dX7_isDraftOnField_26 : decode cX7_isDraftOnField 26 = .ok (.ifCond .ne 5, 3) := by decide +kernel
theorem dX7_isDraftOnField_29 : decode cX7_isDraftOnField 29 = .ok (.iconst 0, 1) := by decide +kernel
theorem dX7_isDraftOnField_30 : decode cX7_isDraftOnField 30 = .ok (.ireturn, 1) := by decide +kernel
theorem dX7_isDraftOnField_31 : decode cX7_isDraftOnField 31 = .ok (.iinc 2 1, 3) := by decide +kernel
theorem dX7_isDraftOnField_34 : decode cX7_isDraftOnField 34 = .ok (.goto (-32), 3) := by decide +kernel
theorem dX7_isDraftOnField_37 : decode cX7_isDraftOnField 37 = .ok (.iconst 1, 1) := by decide +kernel
theorem dX7_isDraftOnField_38 : decode cX7_isDraftOnField 38 = .ok (.ireturn, 1) := by decide +kernel
def fX7_isDraftOnField_l2 (m : dM) (p1 : Int32) (v2 : Int32) : Option (Int32 ⊕ (Unit ⊕ Unit)) := if p1 ≤ v2 then some (.inr (.inr ())) else (fX9_x m 44 v2).bind (fun v11 => (fX9_y m 44 v2).bind (fun v13 => (fX11_isOnField m v11 v13).bind (fun v15 => if v15 = 0 then some (.inr (.inl ())) else dlet (v2 + 1 : Int32) (fun v16 => some (.inl v16)))))
def fX7_isDraftOnField (m : dM) (p0 : Nat) (p1 : Int32) : Option Int32 := dg (dkg p0 8) ((dlp (fun q => (fun v2 => fX7_isDraftOnField_l2 m p1 v2) q) dFl 0).bind (fun q => dS q (fun _ => some 0) (fun _ => some 1)))
set_option maxHeartbeats 4000000 in
set_option maxRecDepth 100000 in
theorem kX7_isDraftOnField (l : Launch) (g : dG) {m : dM} {p0 : Nat} {p1 : Int32} {r0 : Int32} (h : fX7_isDraftOnField m p0 p1 = some r0) : dMet l g yX7_isDraftOnField wsX7_isDraftOnField (dRm 2 43) [.ref (dad g p0), .int p1] m (dQI g r0 m) := by
  refine dof (cc := cX7_isDraftOnField) (maxL := 3) (ret := (some .boolean)) _ (plainFor_of_name (by decide)) rfl (Nat.le_of_ble_eq_true rfl) ?_
  intro p e s mth below meth c S hr hlk hE H ls hP hS hl
  have S : CallFix p mth c cX7_isDraftOnField 3 s _ wsX7_isDraftOnField RX7 := S
  have hl : lv_has ls 3 [(0, .ref (dad g p0)), (1, .int p1)] := hl
  obtain ⟨locs, hlocs⟩ : ∃ z : List Loc, z = [] := ⟨_, rfl⟩
  rw [← hlocs] at hS ⊢
  have in7 : ∀ w ∈ wsX70, w ∈ wsX7_isDraftOnField := by decide +kernel
  unfold fX7_isDraftOnField at h
  obtain ⟨k0, h⟩ := d_g h
  have k0 := d_k k0
  refine lv_iconst (v := 0) S.1 S.2.1 dX7_isDraftOnField_0 (by decide) ?_
  refine lv_istore_n (lv' := [(2, .int 0), (0, .ref (dad g p0)), (1, .int p1)]) S.1 S.2.1 dX7_isDraftOnField_1 rfl hl (by decide) rfl (fun ls hl => ?_)
  obtain ⟨qL1, hqL1, h⟩ := d_b h
  refine d_lp (Hd := fun q => (fun (v2 : _) => ∀ (H : Heap) (locs : List Loc) (ls : Array Slot), va_P g.1 vwCl (dws g m) H → va_S (dA g) s.heap H locs → lv_has ls 3 [(2, .int v2), (0, .ref (dad g p0)), (1, .int p1)] → W p l e (headSpec wsX7_isDraftOnField (dRm 2 43)).room s mth (([.ref (dad g p0), .int p1] : List Value).toArray) below meth c H locs 0 0 (MQ below (dQI g r0 m) (([.ref (dad g p0), .int p1] : List Value).toArray) s 0 0 (dA g)) (F0 mth 2 ls [])) q) (K := fun q => match q with | .inl q => ∀ (H : Heap) (locs : List Loc) (ls : Array Slot), va_P g.1 vwCl (dws g m) H → va_S (dA g) s.heap H locs → lv_has ls 3 [] → W p l e (headSpec wsX7_isDraftOnField (dRm 2 43)).room s mth (([.ref (dad g p0), .int p1] : List Value).toArray) below meth c H locs 0 0 (MQ below (dQI g r0 m) (([.ref (dad g p0), .int p1] : List Value).toArray) s 0 0 (dA g)) (F0 mth 29 ls []) | .inr q => ∀ (H : Heap) (locs : List Loc) (ls : Array Slot), va_P g.1 vwCl (dws g m) H → va_S (dA g) s.heap H locs → lv_has ls 3 [] → W p l e (headSpec wsX7_isDraftOnField (dRm 2 43)).room s mth (([.ref (dad g p0), .int p1] : List Value).toArray) below meth c H locs 0 0 (MQ below (dQI g r0 m) (([.ref (dad g p0), .int p1] : List Value).toArray) s 0 0 (dA g)) (F0 mth 37 ls [])) ?_ dFl _ qL1 hqL1 ?_ H locs ls hP hS (lv_sub hl [0, 1, 2] rfl)
  · intro q o h hCL1 hEL1
    obtain ⟨v2, rfl⟩ : ∃ z, z = q := ⟨_, rfl⟩
    have h : fX7_isDraftOnField_l2 m p1 v2 = some o := h
    intro H locs ls hP hS hl
    have hP : va_P g.1 vwCl (dws g m) H := hP
    have hl : lv_has ls 3 [(2, .int v2), (0, .ref (dad g p0)), (1, .int p1)] := hl
    unfold fX7_isDraftOnField_l2 at h
    refine lv_iload_n S.1 S.2.1 dX7_isDraftOnField_2 rfl (lv_at hl 0 rfl) ?_
    refine lv_iload_n S.1 S.2.1 dX7_isDraftOnField_3 rfl (lv_at hl 2 rfl) ?_
    refine lv_icmp_ge (tgt := 37) S.1 S.2.1 dX7_isDraftOnField_4 (by decide) (fun cq => ?_) (fun cq => ?_)
    · have h := d_t cq h
      obtain rfl := Option.some.inj h
      exact hEL1 _ rfl H locs ls hP hS (lv_sub hl [] rfl)
    · have h := d_f cq h
      refine lv_aload_n S.1 S.2.1 dX7_isDraftOnField_7 rfl (lv_at hl 1 rfl) ?_
      refine dgf7_1 S in7 hE hP k0 (S.2.2.2.2 (.fieldLink RX7 18 "DrillField$Sets" "draft" "LDrillField$Spots;") (List.mem_of_getElem? (i := 1) rfl)) dX7_isDraftOnField_8 ?_
      refine lv_iload_n S.1 S.2.1 dX7_isDraftOnField_11 rfl (lv_at hl 0 rfl) ?_
      obtain ⟨v11, hc10, h⟩ := d_b h
      refine dri (va_runV (As := [.int v2]) (rest := []) S (kX9_x l g hc10) (cwV 1 S.2.2.2.2 gX7_isDraftOnField_X9_x rfl rfl rfl ynX9_x ⟨Nat.le_of_ble_eq_true rfl, Nat.le_of_ble_eq_true rfl⟩) (dpV hE hP hS (ci := 9) rfl (dat10 dk_44)) rfl rfl hl.1 rfl (lv_room (Nat.le_of_ble_eq_true rfl)) dX7_isDraftOnField_12 ⟨Nat.le_of_ble_eq_true rfl, Nat.le_of_ble_eq_true rfl⟩) hS (fun H locs hP hS => ?_)
      refine lv_aload_n S.1 S.2.1 dX7_isDraftOnField_15 rfl (lv_at hl 1 rfl) ?_
      refine dgf7_1 S in7 hE hP k0 (S.2.2.2.2 (.fieldLink RX7 18 "DrillField$Sets" "draft" "LDrillField$Spots;") (List.mem_of_getElem? (i := 1) rfl)) dX7_isDraftOnField_16 ?_
      refine lv_iload_n S.1 S.2.1 dX7_isDraftOnField_19 rfl (lv_at hl 0 rfl) ?_
      obtain ⟨v13, hc12, h⟩ := d_b h
      refine dri (va_runV (As := [.int v2]) (rest := [.int v11]) S (kX9_y l g hc12) (cwV 1 S.2.2.2.2 gX7_isDraftOnField_X9_y rfl rfl rfl ynX9_y ⟨Nat.le_of_ble_eq_true rfl, Nat.le_of_ble_eq_true rfl⟩) (dpV hE hP hS (ci := 9) rfl (dat10 dk_44)) rfl rfl hl.1 rfl (lv_room (Nat.le_of_ble_eq_true rfl)) dX7_isDraftOnField_20 ⟨Nat.le_of_ble_eq_true rfl, Nat.le_of_ble_eq_true rfl⟩) hS (fun H locs hP hS => ?_)
      obtain ⟨v15, hc14, h⟩ := d_b h
      refine dri (va_runSN (As := [.int v11, .int v13]) (rest := []) S (kX11_isOnField l g hc14) ⟨va_cnB 2 S.2.2.2.2 gX7_isDraftOnField_X11_isOnField_n48 rfl rfl rfl (dnq_RX7_48 hE) (S.2.2.2.2 (.initialized RX11) (List.mem_of_getElem? (i := 9) rfl)) ynX11_isOnField ⟨Nat.le_of_ble_eq_true rfl, Nat.le_of_ble_eq_true rfl⟩, S.2.2.2.2 (.static yX11_isOnField) (List.mem_of_getElem? (i := 16) rfl), trivial⟩ (dpS hE hP hS) rfl rfl hl.1 rfl (lv_room (Nat.le_of_ble_eq_true rfl)) dX7_isDraftOnField_23 ⟨Nat.le_of_ble_eq_true rfl, Nat.le_of_ble_eq_true rfl⟩) hS (fun H locs hP hS => ?_)
      refine lv_if_ne (tgt := 31) S.1 S.2.1 dX7_isDraftOnField_26 (by decide) (fun cq => ?_) (fun cq => ?_)
      · have h := d_f cq h
        obtain ⟨v16, ev16⟩ : ∃ z : Int32, z = v2 + 1 := ⟨_, rfl⟩
        have h := d_let ev16 h
        refine lv_iinc (v := v16) (lv' := [(2, .int v16), (0, .ref (dad g p0)), (1, .int p1)]) S.1 S.2.1 dX7_isDraftOnField_31 hl (k := 0) rfl (by rw [ev16]; rfl) (by decide) rfl (fun ls hl => ?_)
        refine lv_goto (tgt := 2) S.1 S.2.1 dX7_isDraftOnField_34 (by decide) ?_
        obtain rfl := Option.some.inj h
        exact hCL1 _ rfl H locs ls hP hS (lv_sub hl [0, 1, 2] rfl)
      · have h := d_t cq h
        obtain rfl := Option.some.inj h
        exact hEL1 _ rfl H locs ls hP hS (lv_sub hl [] rfl)
  · rcases qL1 with qL1a | qL1b
    · have h := d_s1 h
      intro H locs ls hP hS hl
      have hP : va_P g.1 vwCl (dws g m) H := hP
      have hl : lv_has ls 3 [] := hl
      refine lv_iconst (v := 0) S.1 S.2.1 dX7_isDraftOnField_29 (by decide) ?_
      obtain rfl := Option.some.inj h
      exact dti S hr hlk hE hP hS rfl dX7_isDraftOnField_30
    · have h := d_s2 h
      intro H locs ls hP hS hl
      have hP : va_P g.1 vwCl (dws g m) H := hP
      have hl : lv_has ls 3 [] := hl
      refine lv_iconst (v := 1) S.1 S.2.1 dX7_isDraftOnField_37 (by decide) ?_
      obtain rfl := Option.some.inj h
      exact dti S hr hlk hE hP hS rfl dX7_isDraftOnField_38
set_option maxRecDepth 20000 in
theorem ggX7_numbered_X11_isWithin : GoodIn wsX7_numbered wsX11_isWithin := goodIn_r _ [5] (by decide +kernel) (by decide +kernel)
set_option maxRecDepth 20000 in
theorem gX7_numbered_X11_isWithin_n26 : GoodIn wsX7_numbered (wsX11_isWithin) := ggX7_numbered_X11_isWithin
theorem dX7_numbered_0 : decode cX7_numbered 0 = .ok (.iload_n 1, 1) := by decide +kernel
theorem dX7_numbered_1 : decode cX7_numbered 1 = .ok (.iconst 0, 1) := by decide +kernel
theorem dX7_numbered_2 : decode cX7_numbered 2 = .ok (.bipush 11, 2) := by decide +kernel
theorem dX7_numbered_4 : decode cX7_numbered 4 = .ok (.invokestatic 26, 3) := by decide +kernel
theorem dX7_numbered_7 : decode cX7_numbered 7 = .ok (.ifCond .eq 21, 3) := by decide +kernel
theorem dX7_numbered_10 : decode cX7_numbered 10 = .ok (.aload_n 0, 1) := by decide +kernel
theorem dX7_numbered_11 : decode cX7_numbered 11 = .ok (.getfield 11, 3) := by decide +kernel
theorem dX7_numbered_14 : decode cX7_numbered 14 = .ok (.iload_n 1, 1) := by decide +kernel
theorem dX7_numbered_15 : decode cX7_numbered 15 = .ok (.aaload, 1) := by decide +kernel
theorem dX7_numbered_16 : decode cX7_numbered 16 = .ok (.ifnull 12, 3) := by decide +kernel
theorem dX7_numbered_19 : decode cX7_numbered 19 = .ok (.aload_n 0, 1) := by decide +kernel
theorem dX7_numbered_20 : decode cX7_numbered 20 = .ok (.getfield 11, 3) := by decide +kernel
theorem dX7_numbered_23 : decode cX7_numbered 23 = .ok (.iload_n 1, 1) := by decide +kernel
theorem dX7_numbered_24 : decode cX7_numbered 24 = .ok (.aaload, 1) := by decide +kernel
theorem dX7_numbered_25 : decode cX7_numbered 25 = .ok (.goto 7, 3) := by decide +kernel
theorem dX7_numbered_28 : decode cX7_numbered 28 = .ok (.aload_n 0, 1) := by decide +kernel
theorem dX7_numbered_29 : decode cX7_numbered 29 = .ok (.getfield 18, 3) := by decide +kernel
theorem dX7_numbered_32 : decode cX7_numbered 32 = .ok (.areturn, 1) := by decide +kernel
def fX7_numbered (m : dM) (p0 : Nat) (p1 : Int32) : Option Nat := dg (dkg p0 8) ((fX11_isWithin m p1 0 11).bind (fun v2 => if v2 = 0 then some 44 else dg (dIx p1 (dL 7)) (dg (dkg (7 + 1 + 3 * (Int32.toNatClampNeg (p1))) 10) (dg (dIx p1 (dL 7)) (dg (dkg (7 + 1 + 3 * (Int32.toNatClampNeg (p1))) 10) (some (7 + 1 + 3 * (Int32.toNatClampNeg (p1)))))))))
set_option maxHeartbeats 4000000 in
set_option maxRecDepth 100000 in
theorem kX7_numbered (l : Launch) (g : dG) {m : dM} {p0 : Nat} {p1 : Int32} {r0 : Nat} (h : fX7_numbered m p0 p1 = some r0) : dMet l g yX7_numbered wsX7_numbered (dRm 1 22) [.ref (dad g p0), .int p1] m (dQR g r0 m) := by
  refine dof (cc := cX7_numbered) (maxL := 2) (ret := (some (.object "DrillField$Spots"))) _ (plainFor_of_name (by decide)) rfl (Nat.le_of_ble_eq_true rfl) ?_
  intro p e s mth below meth c S hr hlk hE H ls hP hS hl
  have S : CallFix p mth c cX7_numbered 2 s _ wsX7_numbered RX7 := S
  have hl : lv_has ls 2 [(0, .ref (dad g p0)), (1, .int p1)] := hl
  obtain ⟨locs, hlocs⟩ : ∃ z : List Loc, z = [] := ⟨_, rfl⟩
  rw [← hlocs] at hS ⊢
  have in7 : ∀ w ∈ wsX70, w ∈ wsX7_numbered := by decide +kernel
  unfold fX7_numbered at h
  obtain ⟨k0, h⟩ := d_g h
  have k0 := d_k k0
  refine lv_iload_n S.1 S.2.1 dX7_numbered_0 rfl (lv_at hl 1 rfl) ?_
  refine lv_iconst (v := 0) S.1 S.2.1 dX7_numbered_1 (by decide) ?_
  refine lv_bipush (v := 11) S.1 S.2.1 dX7_numbered_2 (by decide) ?_
  obtain ⟨v2, hc1, h⟩ := d_b h
  refine dri (va_runSN (As := [.int p1, .int 0, .int 11]) (rest := []) S (kX11_isWithin l g hc1) ⟨va_cnB 3 S.2.2.2.2 gX7_numbered_X11_isWithin_n26 rfl rfl rfl (dnq_RX7_26 hE) (S.2.2.2.2 (.initialized RX11) (List.mem_of_getElem? (i := 4) rfl)) ynX11_isWithin ⟨Nat.le_of_ble_eq_true rfl, Nat.le_of_ble_eq_true rfl⟩, S.2.2.2.2 (.static yX11_isWithin) (List.mem_of_getElem? (i := 3) rfl), trivial⟩ (dpS hE hP hS) rfl rfl hl.1 rfl (lv_room (Nat.le_of_ble_eq_true rfl)) dX7_numbered_4 ⟨Nat.le_of_ble_eq_true rfl, Nat.le_of_ble_eq_true rfl⟩) hS (fun H locs hP hS => ?_)
  refine lv_if_eq (tgt := 28) S.1 S.2.1 dX7_numbered_7 (by decide) (fun cq => ?_) (fun cq => ?_)
  · have h := d_t cq h
    refine lv_aload_n S.1 S.2.1 dX7_numbered_28 rfl (lv_at hl 0 rfl) ?_
    refine dgf7_1 S in7 hE hP k0 (S.2.2.2.2 (.fieldLink RX7 18 "DrillField$Sets" "draft" "LDrillField$Spots;") (List.mem_of_getElem? (i := 2) rfl)) dX7_numbered_29 ?_
    obtain rfl := Option.some.inj h
    exact dtr S hr hlk hE hP hS dX7_numbered_32
  · have h := d_f cq h
    refine lv_aload_n S.1 S.2.1 dX7_numbered_10 rfl (lv_at hl 0 rfl) ?_
    refine dgf7_0 S in7 hE hP k0 (S.2.2.2.2 (.fieldLink RX7 11 "DrillField$Sets" "all" "[LDrillField$Spots;") (List.mem_of_getElem? (i := 1) rfl)) dX7_numbered_11 ?_
    refine lv_iload_n S.1 S.2.1 dX7_numbered_14 rfl (lv_at hl 1 rfl) ?_
    obtain ⟨hi, h⟩ := d_g h
    obtain ⟨hk3, h⟩ := d_g h
    have hk3 := d_k hk3
    refine d_aald (r := dad g (7 + 1 + 3 * (Int32.toNatClampNeg (p1)))) (ty := .object "DrillField$Spots") 4 S hE hP (dat24 dk_7) rfl rfl hi (if_pos (dIx_lt hi)) dX7_numbered_15 ?_
    refine lv_ifnull S.1 S.2.1 dX7_numbered_16 ?_
    refine lv_aload_n S.1 S.2.1 dX7_numbered_19 rfl (lv_at hl 0 rfl) ?_
    refine dgf7_0 S in7 hE hP k0 (S.2.2.2.2 (.fieldLink RX7 11 "DrillField$Sets" "all" "[LDrillField$Spots;") (List.mem_of_getElem? (i := 1) rfl)) dX7_numbered_20 ?_
    refine lv_iload_n S.1 S.2.1 dX7_numbered_23 rfl (lv_at hl 1 rfl) ?_
    obtain ⟨hi, h⟩ := d_g h
    obtain ⟨hk4, h⟩ := d_g h
    have hk4 := d_k hk4
    refine d_aald (r := dad g (7 + 1 + 3 * (Int32.toNatClampNeg (p1)))) (ty := .object "DrillField$Spots") 4 S hE hP (dat24 dk_7) rfl rfl hi (if_pos (dIx_lt hi)) dX7_numbered_24 ?_
    refine lv_goto (tgt := 32) S.1 S.2.1 dX7_numbered_25 (by decide) ?_
    obtain rfl := Option.some.inj h
    exact dtr S hr hlk hE hP hS dX7_numbered_32
set_option maxRecDepth 20000 in
theorem ggX7_keepDraft_X7_numbered : GoodIn wsX7_keepDraft wsX7_numbered := goodIn_r _ [7, 8, 2, 9, 10, 11, 33, 34, 35] (by decide +kernel) (by decide +kernel)
set_option maxRecDepth 20000 in
theorem gX7_keepDraft_X7_numbered : GoodIn wsX7_keepDraft (wsV RX7 52 RX7 yX7_numbered wsX7_numbered) := goodIn_app (goodIn_of _ (by decide +kernel)) ggX7_keepDraft_X7_numbered
set_option maxRecDepth 20000 in
theorem ggX7_keepDraft_X9_copy : GoodIn wsX7_keepDraft wsX9_copy := goodIn_r _ [16, 17, 18, 19, 15, 20, 21, 22, 10, 23, 24, 25, 26, 27, 28, 29, 30, 31, 32, 36, 37] (by decide +kernel) (by decide +kernel)
set_option maxRecDepth 20000 in
theorem gX7_keepDraft_X9_copy : GoodIn wsX7_keepDraft (wsV RX7 56 RX9 yX9_copy wsX9_copy) := goodIn_app (goodIn_of _ (by decide +kernel)) ggX7_keepDraft_X9_copy
theorem dX7_keepDraft_0 : decode cX7_keepDraft 0 = .ok (.aload_n 0, 1) := by decide +kernel
theorem dX7_keepDraft_1 : decode cX7_keepDraft 1 = .ok (.getfield 22, 3) := by decide +kernel
theorem dX7_keepDraft_4 : decode cX7_keepDraft 4 = .ok (.istore_n 1, 1) := by decide +kernel
theorem dX7_keepDraft_5 : decode cX7_keepDraft 5 = .ok (.iload_n 1, 1) := by decide +kernel
theorem dX7_keepDraft_6 : decode cX7_keepDraft 6 = .ok (.bipush 12, 2) := by decide +kernel
theorem dX7_keepDraft_8 : decode cX7_keepDraft 8 = .ok (.if_icmp .ge 22, 3) := by decide +kernel
theorem dX7_keepDraft_11 : decode cX7_keepDraft 11 = .ok (.aload_n 0, 1) := by decide +kernel
theorem dX7_keepDraft_12 : decode cX7_keepDraft 12 = .ok (.iload_n 1, 1) := by decide +kernel
theorem dX7_keepDraft_13 : decode cX7_keepDraft 13 = .ok (.invokevirtual 52, 3) := by decide +kernel
theorem dX7_keepDraft_16 : decode cX7_keepDraft 16 = .ok (.aload_n 0, 1) := by decide +kernel
theorem dX7_keepDraft_17 : decode cX7_keepDraft 17 = .ok (.getfield 18, 3) := by decide +kernel
theorem dX7_keepDraft_20 : decode cX7_keepDraft 20 = .ok (.invokevirtual 56, 3) := by decide +kernel
theorem dX7_keepDraft_23 : decode cX7_keepDraft 23 = .ok (.aload_n 0, 1) := by decide +kernel
theorem dX7_keepDraft_24 : decode cX7_keepDraft 24 = .ok (.iload_n 1, 1) := by decide +kernel
theorem dX7_keepDraft_25 : decode cX7_keepDraft 25 = .ok (.iconst 1, 1) := by decide +kernel
theorem dX7_keepDraft_26 : decode cX7_keepDraft 26 = .ok (.iadd, 1) := by decide +kernel
theorem dX7_keepDraft_27 : decode cX7_keepDraft 27 = .ok (.putfield 22, 3) := by decide +kernel
theorem dX7_keepDraft_30 : decode cX7_keepDraft 30 = .ok (.iload_n 1, 1) := by decide +kernel
theorem dX7_keepDraft_31 : decode cX7_keepDraft 31 = .ok (.ireturn, 1) := by decide +kernel
def fX7_keepDraft (m : dM) (p0 : Nat) : Option (Int32 × dM) := dg (dkg p0 8) (dlet (m.1 p0 2 : Int32) (fun v1 => if 12 ≤ v1 then some (v1, m) else (fX7_numbered m p0 v1).bind (fun v3 => dg (dkg v3 10) ((fX9_copy m v3 44).bind (fun m6 => dlet (d1 m6 p0 2 (v1 + 1)) (fun m7 => some (v1, m7)))))))
set_option maxHeartbeats 4000000 in
set_option maxRecDepth 100000 in
theorem kX7_keepDraft (l : Launch) (g : dG) {m : dM} {p0 : Nat} {r0 : Int32} {m0 : dM} (h : fX7_keepDraft m p0 = some (r0, m0)) : dMet l g yX7_keepDraft wsX7_keepDraft (dRm 3 65) [.ref (dad g p0)] m (dQI g r0 m0) := by
  refine dof (cc := cX7_keepDraft) (maxL := 2) (ret := (some .int)) _ (plainFor_of_name (by decide)) rfl (Nat.le_of_ble_eq_true rfl) ?_
  intro p e s mth below meth c S hr hlk hE H ls hP hS hl
  have S : CallFix p mth c cX7_keepDraft 2 s _ wsX7_keepDraft RX7 := S
  have hl : lv_has ls 2 [(0, .ref (dad g p0))] := hl
  obtain ⟨locs, hlocs⟩ : ∃ z : List Loc, z = [] := ⟨_, rfl⟩
  rw [← hlocs] at hS ⊢
  have in7 : ∀ w ∈ wsX70, w ∈ wsX7_keepDraft := by decide +kernel
  unfold fX7_keepDraft at h
  obtain ⟨k0, h⟩ := d_g h
  have k0 := d_k k0
  refine lv_aload_n S.1 S.2.1 dX7_keepDraft_0 rfl (lv_at hl 0 rfl) ?_
  refine dgf7_2 S in7 hE hP k0 (S.2.2.2.2 (.fieldLink RX7 22 "DrillField$Sets" "number" "I") (List.mem_of_getElem? (i := 1) rfl)) dX7_keepDraft_1 ?_
  refine lv_topi (fun v1 ev1 => ?_)
  have h := d_let ev1 h
  refine lv_istore_n (lv' := [(1, .int v1), (0, .ref (dad g p0))]) S.1 S.2.1 dX7_keepDraft_4 rfl hl (by decide) rfl (fun ls hl => ?_)
  refine lv_iload_n S.1 S.2.1 dX7_keepDraft_5 rfl (lv_at hl 0 rfl) ?_
  refine lv_bipush (v := 12) S.1 S.2.1 dX7_keepDraft_6 (by decide) ?_
  refine lv_icmp_ge (tgt := 30) S.1 S.2.1 dX7_keepDraft_8 (by decide) (fun cq => ?_) (fun cq => ?_)
  · have h := d_t cq h
    refine lv_iload_n S.1 S.2.1 dX7_keepDraft_30 rfl (lv_at hl 0 rfl) ?_
    obtain ⟨rfl, rfl⟩ := Prod.mk.inj (Option.some.inj h)
    exact dti S hr hlk hE hP hS rfl dX7_keepDraft_31
  · have h := d_f cq h
    refine lv_aload_n S.1 S.2.1 dX7_keepDraft_11 rfl (lv_at hl 1 rfl) ?_
    refine lv_iload_n S.1 S.2.1 dX7_keepDraft_12 rfl (lv_at hl 0 rfl) ?_
    obtain ⟨v3, hc2, h⟩ := d_b h
    obtain ⟨hk4, h⟩ := d_g h
    have hk4 := d_k hk4
    refine drr (va_runV (As := [.int v1]) (rest := []) S (kX7_numbered l g hc2) (cwV 1 S.2.2.2.2 gX7_keepDraft_X7_numbered rfl rfl rfl ynX7_numbered ⟨Nat.le_of_ble_eq_true rfl, Nat.le_of_ble_eq_true rfl⟩) (dpV hE hP hS (ci := 7) rfl (dat8 k0)) rfl rfl hl.1 rfl (lv_room (Nat.le_of_ble_eq_true rfl)) dX7_keepDraft_13 ⟨Nat.le_of_ble_eq_true rfl, Nat.le_of_ble_eq_true rfl⟩) hS (fun H locs hP hS => ?_)
    refine lv_aload_n S.1 S.2.1 dX7_keepDraft_16 rfl (lv_at hl 1 rfl) ?_
    refine dgf7_1 S in7 hE hP k0 (S.2.2.2.2 (.fieldLink RX7 18 "DrillField$Sets" "draft" "LDrillField$Spots;") (List.mem_of_getElem? (i := 2) rfl)) dX7_keepDraft_17 ?_
    obtain ⟨m6, hc5, h⟩ := d_b h
    refine drv (va_runV (As := [.ref (dad g 44)]) (rest := []) S (kX9_copy l g hc5) (cwV 1 S.2.2.2.2 gX7_keepDraft_X9_copy rfl rfl rfl ynX9_copy ⟨Nat.le_of_ble_eq_true rfl, Nat.le_of_ble_eq_true rfl⟩) (dpV hE hP hS (ci := 9) rfl (dat10 hk4)) rfl rfl hl.1 rfl (lv_room (Nat.le_of_ble_eq_true rfl)) dX7_keepDraft_20 ⟨Nat.le_of_ble_eq_true rfl, Nat.le_of_ble_eq_true rfl⟩) hS (fun H locs hP hS => ?_)
    refine lv_aload_n S.1 S.2.1 dX7_keepDraft_23 rfl (lv_at hl 1 rfl) ?_
    refine lv_iload_n S.1 S.2.1 dX7_keepDraft_24 rfl (lv_at hl 0 rfl) ?_
    refine lv_iconst (v := 1) S.1 S.2.1 dX7_keepDraft_25 (by decide) ?_
    refine lv_iadd S.1 S.2.1 dX7_keepDraft_26 ?_
    refine dpf7_2 S in7 hE hP hS k0 (S.2.2.2.2 (.fieldLink RX7 22 "DrillField$Sets" "number" "I") (List.mem_of_getElem? (i := 1) rfl)) dX7_keepDraft_27 (fun H locs hP hS => ?_)
    obtain ⟨m7, em7⟩ : ∃ z : dM, z = d1 m6 p0 2 (v1 + 1) := ⟨_, rfl⟩
    have h := d_let em7 h
    rw [← em7] at hP
    refine lv_iload_n S.1 S.2.1 dX7_keepDraft_30 rfl (lv_at hl 0 rfl) ?_
    obtain ⟨rfl, rfl⟩ := Prod.mk.inj (Option.some.inj h)
    exact dti S hr hlk hE hP hS rfl dX7_keepDraft_31
theorem dX7_number_0 : decode cX7_number 0 = .ok (.aload_n 0, 1) := by decide +kernel
theorem dX7_number_1 : decode cX7_number 1 = .ok (.getfield 22, 3) := by decide +kernel
theorem dX7_number_4 : decode cX7_number 4 = .ok (.ireturn, 1) := by decide +kernel
def fX7_number (m : dM) (p0 : Nat) : Option Int32 := dg (dkg p0 8) (some (m.1 p0 2))
set_option maxHeartbeats 4000000 in
set_option maxRecDepth 100000 in
theorem kX7_number (l : Launch) (g : dG) {m : dM} {p0 : Nat} {r0 : Int32} (h : fX7_number m p0 = some r0) : dMet l g yX7_number wsX7_number (dRm 0 0) [.ref (dad g p0)] m (dQI g r0 m) := by
  refine dof (cc := cX7_number) (maxL := 1) (ret := (some .int)) _ (plainFor_of_name (by decide)) rfl (Nat.le_of_ble_eq_true rfl) ?_
  intro p e s mth below meth c S hr hlk hE H ls hP hS hl
  have S : CallFix p mth c cX7_number 1 s _ wsX7_number RX7 := S
  have hl : lv_has ls 1 [(0, .ref (dad g p0))] := hl
  obtain ⟨locs, hlocs⟩ : ∃ z : List Loc, z = [] := ⟨_, rfl⟩
  rw [← hlocs] at hS ⊢
  have in7 : ∀ w ∈ wsX70, w ∈ wsX7_number := by decide +kernel
  unfold fX7_number at h
  obtain ⟨k0, h⟩ := d_g h
  have k0 := d_k k0
  refine lv_aload_n S.1 S.2.1 dX7_number_0 rfl (lv_at hl 0 rfl) ?_
  refine dgf7_2 S in7 hE hP k0 (S.2.2.2.2 (.fieldLink RX7 22 "DrillField$Sets" "number" "I") (List.mem_of_getElem? (i := 1) rfl)) dX7_number_1 ?_
  obtain rfl := Option.some.inj h
  exact dti S hr hlk hE hP hS rfl dX7_number_4
