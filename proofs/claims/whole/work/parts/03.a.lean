theorem dX11_isInRow_0 : decode cX11_isInRow 0 = .ok (.iload_n 0, 1) := by decide +kernel
theorem dX11_isInRow_1 : decode cX11_isInRow 1 = .ok (.ifCond .lt 13, 3) := by decide +kernel
theorem dX11_isInRow_4 : decode cX11_isInRow 4 = .ok (.iload_n 0, 1) := by decide +kernel
theorem dX11_isInRow_5 : decode cX11_isInRow 5 = .ok (.bipush 10, 2) := by decide +kernel
theorem dX11_isInRow_7 : decode cX11_isInRow 7 = .ok (.if_icmp .ge 7, 3) := by decide +kernel
theorem dX11_isInRow_10 : decode cX11_isInRow 10 = .ok (.iconst 1, 1) := by decide +kernel
theorem dX11_isInRow_11 : decode cX11_isInRow 11 = .ok (.goto 4, 3) := by decide +kernel
theorem dX11_isInRow_14 : decode cX11_isInRow 14 = .ok (.iconst 0, 1) := by decide +kernel
theorem dX11_isInRow_15 : decode cX11_isInRow 15 = .ok (.ireturn, 1) := by decide +kernel
def fX11_isInRow (m : dM) (p0 : Int32) : Option Int32 := if p0 < 0 then some 0 else if 10 ≤ p0 then some 0 else some 1
set_option maxHeartbeats 4000000 in
set_option maxRecDepth 100000 in
theorem kX11_isInRow (l : Launch) (g : dG) {m : dM} {p0 : Int32} {r0 : Int32} (h : fX11_isInRow m p0 = some r0) : dMet l g yX11_isInRow wsX11_isInRow (dRm 0 0) [.int p0] m (dQI g r0 m) := by
  refine dof (cc := cX11_isInRow) (maxL := 1) (ret := (some .boolean)) _ (by decide) rfl (Nat.le_of_ble_eq_true rfl) ?_
  intro p e s mth below meth c S hr hlk hE H ls hP hS hl
  have S : CallFix p mth c cX11_isInRow 1 s _ wsX11_isInRow RX11 := S
  have hl : lv_has ls 1 [(0, .int p0)] := hl
  obtain ⟨locs, hlocs⟩ : ∃ z : List Loc, z = [] := ⟨_, rfl⟩
  rw [← hlocs] at hS ⊢
  unfold fX11_isInRow at h
  refine lv_iload_n S.1 S.2.1 dX11_isInRow_0 rfl (lv_at hl 0 rfl) ?_
  refine lv_if_lt (tgt := 14) S.1 S.2.1 dX11_isInRow_1 (by decide) (fun c => ?_) (fun c => ?_)
  · have h := d_t c h
    refine lv_iconst (v := 0) S.1 S.2.1 dX11_isInRow_14 (by decide) ?_
    obtain rfl := Option.some.inj h
    exact dti S hr hlk hE hP hS rfl dX11_isInRow_15
  · have h := d_f c h
    refine lv_iload_n S.1 S.2.1 dX11_isInRow_4 rfl (lv_at hl 0 rfl) ?_
    refine lv_bipush (v := 10) S.1 S.2.1 dX11_isInRow_5 (by decide) ?_
    refine lv_icmp_ge (tgt := 14) S.1 S.2.1 dX11_isInRow_7 (by decide) (fun c => ?_) (fun c => ?_)
    · have h := d_t c h
      refine lv_iconst (v := 0) S.1 S.2.1 dX11_isInRow_14 (by decide) ?_
      obtain rfl := Option.some.inj h
      exact dti S hr hlk hE hP hS rfl dX11_isInRow_15
    · have h := d_f c h
      refine lv_iconst (v := 1) S.1 S.2.1 dX11_isInRow_10 (by decide) ?_
      refine lv_goto (tgt := 15) S.1 S.2.1 dX11_isInRow_11 (by decide) ?_
      obtain rfl := Option.some.inj h
      exact dti S hr hlk hE hP hS rfl dX11_isInRow_15
theorem dX11_isWithin_0 : decode cX11_isWithin 0 = .ok (.iload_n 0, 1) := by decide +kernel
theorem dX11_isWithin_1 : decode cX11_isWithin 1 = .ok (.iload_n 1, 1) := by decide +kernel
theorem dX11_isWithin_2 : decode cX11_isWithin 2 = .ok (.if_icmp .lt 12, 3) := by decide +kernel
theorem dX11_isWithin_5 : decode cX11_isWithin 5 = .ok (.iload_n 0, 1) := by decide +kernel
theorem dX11_isWithin_6 : decode cX11_isWithin 6 = .ok (.iload_n 2, 1) := by decide +kernel
theorem dX11_isWithin_7 : decode cX11_isWithin 7 = .ok (.if_icmp .gt 7, 3) := by decide +kernel
theorem dX11_isWithin_10 : decode cX11_isWithin 10 = .ok (.iconst 1, 1) := by decide +kernel
theorem dX11_isWithin_11 : decode cX11_isWithin 11 = .ok (.goto 4, 3) := by decide +kernel
theorem dX11_isWithin_14 : decode cX11_isWithin 14 = .ok (.iconst 0, 1) := by decide +kernel
theorem dX11_isWithin_15 : decode cX11_isWithin 15 = .ok (.ireturn, 1) := by decide +kernel
def fX11_isWithin (m : dM) (p0 : Int32) (p1 : Int32) (p2 : Int32) : Option Int32 := if p0 < p1 then some 0 else if p2 < p0 then some 0 else some 1
set_option maxHeartbeats 4000000 in
set_option maxRecDepth 100000 in
theorem kX11_isWithin (l : Launch) (g : dG) {m : dM} {p0 : Int32} {p1 : Int32} {p2 : Int32} {r0 : Int32} (h : fX11_isWithin m p0 p1 p2 = some r0) : dMet l g yX11_isWithin wsX11_isWithin (dRm 0 0) [.int p0, .int p1, .int p2] m (dQI g r0 m) := by
  refine dof (cc := cX11_isWithin) (maxL := 3) (ret := (some .boolean)) _ (by decide) rfl (Nat.le_of_ble_eq_true rfl) ?_
  intro p e s mth below meth c S hr hlk hE H ls hP hS hl
  have S : CallFix p mth c cX11_isWithin 3 s _ wsX11_isWithin RX11 := S
  have hl : lv_has ls 3 [(0, .int p0), (1, .int p1), (2, .int p2)] := hl
  obtain ⟨locs, hlocs⟩ : ∃ z : List Loc, z = [] := ⟨_, rfl⟩
  rw [← hlocs] at hS ⊢
  unfold fX11_isWithin at h
  refine lv_iload_n S.1 S.2.1 dX11_isWithin_0 rfl (lv_at hl 0 rfl) ?_
  refine lv_iload_n S.1 S.2.1 dX11_isWithin_1 rfl (lv_at hl 1 rfl) ?_
  refine lv_icmp_lt (tgt := 14) S.1 S.2.1 dX11_isWithin_2 (by decide) (fun c => ?_) (fun c => ?_)
  · have h := d_t c h
    refine lv_iconst (v := 0) S.1 S.2.1 dX11_isWithin_14 (by decide) ?_
    obtain rfl := Option.some.inj h
    exact dti S hr hlk hE hP hS rfl dX11_isWithin_15
  · have h := d_f c h
    refine lv_iload_n S.1 S.2.1 dX11_isWithin_5 rfl (lv_at hl 0 rfl) ?_
    refine lv_iload_n S.1 S.2.1 dX11_isWithin_6 rfl (lv_at hl 2 rfl) ?_
    refine lv_icmp_gt (tgt := 14) S.1 S.2.1 dX11_isWithin_7 (by decide) (fun c => ?_) (fun c => ?_)
    · have h := d_t c h
      refine lv_iconst (v := 0) S.1 S.2.1 dX11_isWithin_14 (by decide) ?_
      obtain rfl := Option.some.inj h
      exact dti S hr hlk hE hP hS rfl dX11_isWithin_15
    · have h := d_f c h
      refine lv_iconst (v := 1) S.1 S.2.1 dX11_isWithin_10 (by decide) ?_
      refine lv_goto (tgt := 15) S.1 S.2.1 dX11_isWithin_11 (by decide) ?_
      obtain rfl := Option.some.inj h
      exact dti S hr hlk hE hP hS rfl dX11_isWithin_15
set_option maxRecDepth 20000 in
theorem ggX9_x_X11_isInRow : GoodIn wsX9_x wsX11_isInRow := goodIn_r _ [4] (by decide +kernel) (by decide +kernel)
set_option maxRecDepth 20000 in
theorem gX9_x_X11_isInRow_n18 : GoodIn wsX9_x (wsX11_isInRow) := ggX9_x_X11_isInRow
theorem dX9_x_0 : decode cX9_x 0 = .ok (.iload_n 1, 1) := by decide +kernel
theorem dX9_x_1 : decode cX9_x 1 = .ok (.invokestatic 18, 3) := by decide +kernel
theorem dX9_x_4 : decode cX9_x 4 = .ok (.ifCond .eq 12, 3) := by decide +kernel
theorem dX9_x_7 : decode cX9_x 7 = .ok (.aload_n 0, 1) := by decide +kernel
theorem dX9_x_8 : decode cX9_x 8 = .ok (.getfield 9, 3) := by decide +kernel
theorem dX9_x_11 : decode cX9_x 11 = .ok (.iload_n 1, 1) := by decide +kernel
theorem dX9_x_12 : decode cX9_x 12 = .ok (.iaload, 1) := by decide +kernel
theorem dX9_x_13 : decode cX9_x 13 = .ok (.goto 4, 3) := by decide +kernel
theorem dX9_x_16 : decode cX9_x 16 = .ok (.iconst 0, 1) := by decide +kernel
theorem dX9_x_17 : decode cX9_x 17 = .ok (.ireturn, 1) := by decide +kernel
def fX9_x (m : dM) (p0 : Nat) (p1 : Int32) : Option Int32 := dg (dkg p0 10) ((fX11_isInRow m p1).bind (fun v2 => if v2 = 0 then some 0 else dg (dIx p1 (dL (p0 + 1))) (some (m.1 (p0 + 1) (p1).toNatClampNeg))))
set_option maxHeartbeats 4000000 in
set_option maxRecDepth 100000 in
theorem kX9_x (l : Launch) (g : dG) {m : dM} {p0 : Nat} {p1 : Int32} {r0 : Int32} (h : fX9_x m p0 p1 = some r0) : dMet l g yX9_x wsX9_x (dRm 1 20) [.ref (dad g p0), .int p1] m (dQI g r0 m) := by
  refine dof (cc := cX9_x) (maxL := 2) (ret := (some .int)) _ (by decide) rfl (Nat.le_of_ble_eq_true rfl) ?_
  intro p e s mth below meth c S hr hlk hE H ls hP hS hl
  have S : CallFix p mth c cX9_x 2 s _ wsX9_x RX9 := S
  have hl : lv_has ls 2 [(0, .ref (dad g p0)), (1, .int p1)] := hl
  obtain ⟨locs, hlocs⟩ : ∃ z : List Loc, z = [] := ⟨_, rfl⟩
  rw [← hlocs] at hS ⊢
  have in9 : ∀ w ∈ wsX90, w ∈ wsX9_x := by decide +kernel
  unfold fX9_x at h
  obtain ⟨k0, h⟩ := d_g h
  have k0 := d_k k0
  refine lv_iload_n S.1 S.2.1 dX9_x_0 rfl (lv_at hl 1 rfl) ?_
  obtain ⟨v2, hc1, h⟩ := d_b h
  refine dri (va_runSN (As := [.int p1]) (rest := []) S (kX11_isInRow l g hc1) ⟨va_cnB 1 S.2.2.2.2 gX9_x_X11_isInRow_n18 rfl rfl rfl (dnq_RX9_18 hE) (S.2.2.2.2 (.initialized RX11) (List.mem_of_getElem? (i := 3) rfl)) ynX11_isInRow ⟨Nat.le_of_ble_eq_true rfl, Nat.le_of_ble_eq_true rfl⟩, S.2.2.2.2 (.static yX11_isInRow) (List.mem_of_getElem? (i := 2) rfl), trivial⟩ (dpS hE hP hS) rfl rfl hl.1 rfl (lv_room (Nat.le_of_ble_eq_true rfl)) dX9_x_1 ⟨Nat.le_refl _, Nat.le_refl _⟩) hS (fun H locs hP hS => ?_)
  refine lv_if_eq (tgt := 16) S.1 S.2.1 dX9_x_4 (by decide) (fun c => ?_) (fun c => ?_)
  · have h := d_t c h
    refine lv_iconst (v := 0) S.1 S.2.1 dX9_x_16 (by decide) ?_
    obtain rfl := Option.some.inj h
    exact dti S hr hlk hE hP hS rfl dX9_x_17
  · have h := d_f c h
    refine lv_aload_n S.1 S.2.1 dX9_x_7 rfl (lv_at hl 0 rfl) ?_
    refine dgf9_0 S in9 hE hP k0 (S.2.2.2.2 (.fieldLink RX9 9 "DrillField$Spots" "xs" "[I") (List.mem_of_getElem? (i := 1) rfl)) dX9_x_8 ?_
    refine lv_iload_n S.1 S.2.1 dX9_x_11 rfl (lv_at hl 1 rfl) ?_
    obtain ⟨hi, h⟩ := d_g h
    refine d_iald S hE hP (dkr10_1 k0) hi dX9_x_12 ?_
    refine lv_goto (tgt := 17) S.1 S.2.1 dX9_x_13 (by decide) ?_
    obtain rfl := Option.some.inj h
    exact dti S hr hlk hE hP hS rfl dX9_x_17
set_option maxRecDepth 20000 in
theorem ggX9_y_X11_isInRow : GoodIn wsX9_y wsX11_isInRow := goodIn_r _ [4] (by decide +kernel) (by decide +kernel)
set_option maxRecDepth 20000 in
theorem gX9_y_X11_isInRow_n18 : GoodIn wsX9_y (wsX11_isInRow) := ggX9_y_X11_isInRow
theorem dX9_y_0 : decode cX9_y 0 = .ok (.iload_n 1, 1) := by decide +kernel
theorem dX9_y_1 : decode cX9_y 1 = .ok (.invokestatic 18, 3) := by decide +kernel
theorem dX9_y_4 : decode cX9_y 4 = .ok (.ifCond .eq 12, 3) := by decide +kernel
theorem dX9_y_7 : decode cX9_y 7 = .ok (.aload_n 0, 1) := by decide +kernel
theorem dX9_y_8 : decode cX9_y 8 = .ok (.getfield 15, 3) := by decide +kernel
theorem dX9_y_11 : decode cX9_y 11 = .ok (.iload_n 1, 1) := by decide +kernel
theorem dX9_y_12 : decode cX9_y 12 = .ok (.iaload, 1) := by decide +kernel
theorem dX9_y_13 : decode cX9_y 13 = .ok (.goto 4, 3) := by decide +kernel
theorem dX9_y_16 : decode cX9_y 16 = .ok (.iconst 0, 1) := by decide +kernel
theorem dX9_y_17 : decode cX9_y 17 = .ok (.ireturn, 1) := by decide +kernel
def fX9_y (m : dM) (p0 : Nat) (p1 : Int32) : Option Int32 := dg (dkg p0 10) ((fX11_isInRow m p1).bind (fun v2 => if v2 = 0 then some 0 else dg (dIx p1 (dL (p0 + 2))) (some (m.1 (p0 + 2) (p1).toNatClampNeg))))
set_option maxHeartbeats 4000000 in
set_option maxRecDepth 100000 in
theorem kX9_y (l : Launch) (g : dG) {m : dM} {p0 : Nat} {p1 : Int32} {r0 : Int32} (h : fX9_y m p0 p1 = some r0) : dMet l g yX9_y wsX9_y (dRm 1 20) [.ref (dad g p0), .int p1] m (dQI g r0 m) := by
  refine dof (cc := cX9_y) (maxL := 2) (ret := (some .int)) _ (by decide) rfl (Nat.le_of_ble_eq_true rfl) ?_
  intro p e s mth below meth c S hr hlk hE H ls hP hS hl
  have S : CallFix p mth c cX9_y 2 s _ wsX9_y RX9 := S
  have hl : lv_has ls 2 [(0, .ref (dad g p0)), (1, .int p1)] := hl
  obtain ⟨locs, hlocs⟩ : ∃ z : List Loc, z = [] := ⟨_, rfl⟩
  rw [← hlocs] at hS ⊢
  have in9 : ∀ w ∈ wsX90, w ∈ wsX9_y := by decide +kernel
  unfold fX9_y at h
  obtain ⟨k0, h⟩ := d_g h
  have k0 := d_k k0
  refine lv_iload_n S.1 S.2.1 dX9_y_0 rfl (lv_at hl 1 rfl) ?_
  obtain ⟨v2, hc1, h⟩ := d_b h
  refine dri (va_runSN (As := [.int p1]) (rest := []) S (kX11_isInRow l g hc1) ⟨va_cnB 1 S.2.2.2.2 gX9_y_X11_isInRow_n18 rfl rfl rfl (dnq_RX9_18 hE) (S.2.2.2.2 (.initialized RX11) (List.mem_of_getElem? (i := 3) rfl)) ynX11_isInRow ⟨Nat.le_of_ble_eq_true rfl, Nat.le_of_ble_eq_true rfl⟩, S.2.2.2.2 (.static yX11_isInRow) (List.mem_of_getElem? (i := 2) rfl), trivial⟩ (dpS hE hP hS) rfl rfl hl.1 rfl (lv_room (Nat.le_of_ble_eq_true rfl)) dX9_y_1 ⟨Nat.le_refl _, Nat.le_refl _⟩) hS (fun H locs hP hS => ?_)
  refine lv_if_eq (tgt := 16) S.1 S.2.1 dX9_y_4 (by decide) (fun c => ?_) (fun c => ?_)
  · have h := d_t c h
    refine lv_iconst (v := 0) S.1 S.2.1 dX9_y_16 (by decide) ?_
    obtain rfl := Option.some.inj h
    exact dti S hr hlk hE hP hS rfl dX9_y_17
  · have h := d_f c h
    refine lv_aload_n S.1 S.2.1 dX9_y_7 rfl (lv_at hl 0 rfl) ?_
    refine dgf9_1 S in9 hE hP k0 (S.2.2.2.2 (.fieldLink RX9 15 "DrillField$Spots" "ys" "[I") (List.mem_of_getElem? (i := 1) rfl)) dX9_y_8 ?_
    refine lv_iload_n S.1 S.2.1 dX9_y_11 rfl (lv_at hl 1 rfl) ?_
    obtain ⟨hi, h⟩ := d_g h
    refine d_iald S hE hP (dkr10_2 k0) hi dX9_y_12 ?_
    refine lv_goto (tgt := 17) S.1 S.2.1 dX9_y_13 (by decide) ?_
    obtain rfl := Option.some.inj h
    exact dti S hr hlk hE hP hS rfl dX9_y_17
set_option maxRecDepth 20000 in
theorem ggX9_put_X11_isInRow : GoodIn wsX9_put wsX11_isInRow := goodIn_r _ [5] (by decide +kernel) (by decide +kernel)
set_option maxRecDepth 20000 in
theorem gX9_put_X11_isInRow_n18 : GoodIn wsX9_put (wsX11_isInRow) := ggX9_put_X11_isInRow
theorem dX9_put_0 : decode cX9_put 0 = .ok (.iload_n 1, 1) := by decide +kernel
theorem dX9_put_1 : decode cX9_put 1 = .ok (.invokestatic 18, 3) := by decide +kernel
theorem dX9_put_4 : decode cX9_put 4 = .ok (.ifCond .eq 17, 3) := by decide +kernel
theorem dX9_put_7 : decode cX9_put 7 = .ok (.aload_n 0, 1) := by decide +kernel
theorem dX9_put_8 : decode cX9_put 8 = .ok (.getfield 9, 3) := by decide +kernel
theorem dX9_put_11 : decode cX9_put 11 = .ok (.iload_n 1, 1) := by decide +kernel
theorem dX9_put_12 : decode cX9_put 12 = .ok (.iload_n 2, 1) := by decide +kernel
theorem dX9_put_13 : decode cX9_put 13 = .ok (.iastore, 1) := by decide +kernel
theorem dX9_put_14 : decode cX9_put 14 = .ok (.aload_n 0, 1) := by decide +kernel
theorem dX9_put_15 : decode cX9_put 15 = .ok (.getfield 15, 3) := by decide +kernel
theorem dX9_put_18 : decode cX9_put 18 = .ok (.iload_n 1, 1) := by decide +kernel
theorem dX9_put_19 : decode cX9_put 19 = .ok (.iload_n 3, 1) := by decide +kernel
theorem dX9_put_20 : decode cX9_put 20 = .ok (.iastore, 1) := by decide +kernel
theorem dX9_put_21 : decode cX9_put 21 = .ok (.return_, 1) := by decide +kernel
def fX9_put (m : dM) (p0 : Nat) (p1 : Int32) (p2 : Int32) (p3 : Int32) : Option dM := dg (dkg p0 10) ((fX11_isInRow m p1).bind (fun v2 => if v2 = 0 then some m else dg (dIx p1 (dL (p0 + 1))) (dlet (d1 m (p0 + 1) (p1).toNatClampNeg p2) (fun m3 => dg (dIx p1 (dL (p0 + 2))) (dlet (d1 m3 (p0 + 2) (p1).toNatClampNeg p3) (fun m4 => some m4))))))
set_option maxHeartbeats 4000000 in
set_option maxRecDepth 100000 in
theorem kX9_put (l : Launch) (g : dG) {m : dM} {p0 : Nat} {p1 : Int32} {p2 : Int32} {p3 : Int32} {m0 : dM} (h : fX9_put m p0 p1 p2 p3 = some m0) : dMet l g yX9_put wsX9_put (dRm 1 20) [.ref (dad g p0), .int p1, .int p2, .int p3] m (dQV g m0) := by
  refine dof (cc := cX9_put) (maxL := 4) (ret := none) _ (by decide) rfl (Nat.le_of_ble_eq_true rfl) ?_
  intro p e s mth below meth c S hr hlk hE H ls hP hS hl
  have S : CallFix p mth c cX9_put 4 s _ wsX9_put RX9 := S
  have hl : lv_has ls 4 [(0, .ref (dad g p0)), (1, .int p1), (2, .int p2), (3, .int p3)] := hl
  obtain ⟨locs, hlocs⟩ : ∃ z : List Loc, z = [] := ⟨_, rfl⟩
  rw [← hlocs] at hS ⊢
  have in9 : ∀ w ∈ wsX90, w ∈ wsX9_put := by decide +kernel
  unfold fX9_put at h
  obtain ⟨k0, h⟩ := d_g h
  have k0 := d_k k0
  refine lv_iload_n S.1 S.2.1 dX9_put_0 rfl (lv_at hl 1 rfl) ?_
  obtain ⟨v2, hc1, h⟩ := d_b h
  refine dri (va_runSN (As := [.int p1]) (rest := []) S (kX11_isInRow l g hc1) ⟨va_cnB 1 S.2.2.2.2 gX9_put_X11_isInRow_n18 rfl rfl rfl (dnq_RX9_18 hE) (S.2.2.2.2 (.initialized RX11) (List.mem_of_getElem? (i := 4) rfl)) ynX11_isInRow ⟨Nat.le_of_ble_eq_true rfl, Nat.le_of_ble_eq_true rfl⟩, S.2.2.2.2 (.static yX11_isInRow) (List.mem_of_getElem? (i := 3) rfl), trivial⟩ (dpS hE hP hS) rfl rfl hl.1 rfl (lv_room (Nat.le_of_ble_eq_true rfl)) dX9_put_1 ⟨Nat.le_refl _, Nat.le_refl _⟩) hS (fun H locs hP hS => ?_)
  refine lv_if_eq (tgt := 21) S.1 S.2.1 dX9_put_4 (by decide) (fun c => ?_) (fun c => ?_)
  · have h := d_t c h
    obtain rfl := Option.some.inj h
    exact dtv S hr hlk hE hP hS dX9_put_21
  · have h := d_f c h
    refine lv_aload_n S.1 S.2.1 dX9_put_7 rfl (lv_at hl 0 rfl) ?_
    refine dgf9_0 S in9 hE hP k0 (S.2.2.2.2 (.fieldLink RX9 9 "DrillField$Spots" "xs" "[I") (List.mem_of_getElem? (i := 1) rfl)) dX9_put_8 ?_
    refine lv_iload_n S.1 S.2.1 dX9_put_11 rfl (lv_at hl 1 rfl) ?_
    refine lv_iload_n S.1 S.2.1 dX9_put_12 rfl (lv_at hl 2 rfl) ?_
    obtain ⟨hi, h⟩ := d_g h
    refine d_iast S hE hP hS (dkr10_1 k0) hi dX9_put_13 (fun H locs hP hS => ?_)
    obtain ⟨m3, em3⟩ : ∃ z : dM, z = d1 m (p0 + 1) (p1).toNatClampNeg p2 := ⟨_, rfl⟩
    have h := d_let em3 h
    rw [← em3] at hP
    refine lv_aload_n S.1 S.2.1 dX9_put_14 rfl (lv_at hl 0 rfl) ?_
    refine dgf9_1 S in9 hE hP k0 (S.2.2.2.2 (.fieldLink RX9 15 "DrillField$Spots" "ys" "[I") (List.mem_of_getElem? (i := 2) rfl)) dX9_put_15 ?_
    refine lv_iload_n S.1 S.2.1 dX9_put_18 rfl (lv_at hl 1 rfl) ?_
    refine lv_iload_n S.1 S.2.1 dX9_put_19 rfl (lv_at hl 3 rfl) ?_
    obtain ⟨hi, h⟩ := d_g h
    refine d_iast S hE hP hS (dkr10_2 k0) hi dX9_put_20 (fun H locs hP hS => ?_)
    obtain ⟨m4, em4⟩ : ∃ z : dM, z = d1 m3 (p0 + 2) (p1).toNatClampNeg p3 := ⟨_, rfl⟩
    have h := d_let em4 h
    rw [← em4] at hP
    obtain rfl := Option.some.inj h
    exact dtv S hr hlk hE hP hS dX9_put_21
set_option maxRecDepth 20000 in
theorem ggX9_copy_X9_x : GoodIn wsX9_copy wsX9_x := goodIn_r _ [5, 6, 7, 8, 9, 19, 20] (by decide +kernel) (by decide +kernel)
set_option maxRecDepth 20000 in
theorem gX9_copy_X9_x : GoodIn wsX9_copy (wsV RX9 22 RX9 yX9_x wsX9_x) := goodIn_app (goodIn_of _ (by decide +kernel)) ggX9_copy_X9_x
set_option maxRecDepth 20000 in
theorem ggX9_copy_X9_y : GoodIn wsX9_copy wsX9_y := goodIn_r _ [13, 14, 7, 8, 9, 19, 20] (by decide +kernel) (by decide +kernel)
set_option maxRecDepth 20000 in
theorem gX9_copy_X9_y : GoodIn wsX9_copy (wsV RX9 26 RX9 yX9_y wsX9_y) := goodIn_app (goodIn_of _ (by decide +kernel)) ggX9_copy_X9_y
set_option maxRecDepth 20000 in
theorem ggX9_copy_X9_put : GoodIn wsX9_copy wsX9_put := goodIn_r _ [18, 6, 14, 7, 8, 9, 19, 20] (by decide +kernel) (by decide +kernel)
set_option maxRecDepth 20000 in
theorem gX9_copy_X9_put : GoodIn wsX9_copy (wsV RX9 29 RX9 yX9_put wsX9_put) := goodIn_app (goodIn_of _ (by decide +kernel)) ggX9_copy_X9_put
theorem dX9_copy_0 : decode cX9_copy 0 = .ok (.iconst 0, 1) := by decide +kernel
theorem dX9_copy_1 : decode cX9_copy 1 = .ok (.istore_n 2, 1) := by decide +kernel
theorem dX9_copy_2 : decode cX9_copy 2 = .ok (.iload_n 2, 1) := by decide +kernel
theorem dX9_copy_3 : decode cX9_copy 3 = .ok (.bipush 10, 2) := by decide +kernel
theorem dX9_copy_5 : decode cX9_copy 5 = .ok (.if_icmp .ge 24, 3) := by decide +kernel
theorem dX9_copy_8 : decode cX9_copy 8 = .ok (.aload_n 0, 1) := by decide +kernel
theorem dX9_copy_9 : decode cX9_copy 9 = .ok (.iload_n 2, 1) := by decide +kernel
theorem dX9_copy_10 : decode cX9_copy 10 = .ok (.aload_n 1, 1) := by decide +kernel
theorem dX9_copy_11 : decode cX9_copy 11 = .ok (.iload_n 2, 1) := by decide +kernel
theorem dX9_copy_12 : decode cX9_copy 12 = .ok (.invokevirtual 22, 3) := by decide +kernel
theorem dX9_copy_15 : decode cX9_copy 15 = .ok (.aload_n 1, 1) := by decide +kernel
theorem dX9_copy_16 : decode cX9_copy 16 = .ok (.iload_n 2, 1) := by decide +kernel
theorem dX9_copy_17 : decode cX9_copy 17 = .ok (.invokevirtual 26, 3) := by decide +kernel
theorem dX9_copy_20 : decode cX9_copy 20 = .ok (.invokevirtual 29, 3) := by decide +kernel
theorem dX9_copy_23 : decode cX9_copy 23 = .ok (.iinc 2 1, 3) := by decide +kernel
theorem dX9_copy_26 : decode cX9_copy 26 = .ok (.goto (-24), 3) := by decide +kernel
theorem dX9_copy_29 : decode cX9_copy 29 = .ok (.return_, 1) := by decide +kernel
def fX9_copy_l2 (p0 : Nat) (p1 : Nat) (v2 : Int32) (m3 : dM) : Option ((Int32 × dM) ⊕ dM) := if 10 ≤ v2 then some (.inr m3) else (fX9_x m3 p1 v2).bind (fun v12 => (fX9_y m3 p1 v2).bind (fun v14 => (fX9_put m3 p0 v2 v12 v14).bind (fun m16 => dlet (v2 + 1 : Int32) (fun v17 => some (.inl (v17, m16))))))
def fX9_copy (m : dM) (p0 : Nat) (p1 : Nat) : Option dM := dg (dkg p0 10) (dg (dkg p1 10) ((dlp (fun q => dP2 q (fun v2 m3 => fX9_copy_l2 p0 p1 v2 m3)) dFl (0, m)).bind (fun q => dP1 q (fun m18 => some m18))))
set_option maxHeartbeats 4000000 in
set_option maxRecDepth 100000 in
theorem kX9_copy (l : Launch) (g : dG) {m : dM} {p0 : Nat} {p1 : Nat} {m0 : dM} (h : fX9_copy m p0 p1 = some m0) : dMet l g yX9_copy wsX9_copy (dRm 2 43) [.ref (dad g p0), .ref (dad g p1)] m (dQV g m0) := by
  refine dof (cc := cX9_copy) (maxL := 3) (ret := none) _ (by decide) rfl (Nat.le_of_ble_eq_true rfl) ?_
  intro p e s mth below meth c S hr hlk hE H ls hP hS hl
  have S : CallFix p mth c cX9_copy 3 s _ wsX9_copy RX9 := S
  have hl : lv_has ls 3 [(0, .ref (dad g p0)), (1, .ref (dad g p1))] := hl
  obtain ⟨locs, hlocs⟩ : ∃ z : List Loc, z = [] := ⟨_, rfl⟩
  rw [← hlocs] at hS ⊢
  unfold fX9_copy at h
  obtain ⟨k0, h⟩ := d_g h
  have k0 := d_k k0
  obtain ⟨k1, h⟩ := d_g h
  have k1 := d_k k1
  refine lv_iconst (v := 0) S.1 S.2.1 dX9_copy_0 (by decide) ?_
  refine lv_istore_n (lv' := [(2, .int 0), (0, .ref (dad g p0)), (1, .ref (dad g p1))]) S.1 S.2.1 dX9_copy_1 rfl hl (by decide) rfl (fun ls hl => ?_)
  obtain ⟨qL1, hqL1, h⟩ := d_b h
  refine d_lp (Hd := fun q => match q with | (v2, m3) => ∀ (H : Heap) (locs : List Loc) (ls : Array Slot), va_P g.1 vwCl (dws g m3) H → va_S (dA g) s.heap H locs → lv_has ls 3 [(2, .int v2), (0, .ref (dad g p0)), (1, .ref (dad g p1))] → W p l e (headSpec wsX9_copy (dRm 2 43)).room s mth (([.ref (dad g p0), .ref (dad g p1)] : List Value).toArray) below meth c H locs 0 0 (MQ below (dQV g m0) (([.ref (dad g p0), .ref (dad g p1)] : List Value).toArray) s 0 0 (dA g)) (F0 mth 2 ls [])) (K := fun q => (fun (m18 : _) => ∀ (H : Heap) (locs : List Loc) (ls : Array Slot), va_P g.1 vwCl (dws g m18) H → va_S (dA g) s.heap H locs → lv_has ls 3 [] → W p l e (headSpec wsX9_copy (dRm 2 43)).room s mth (([.ref (dad g p0), .ref (dad g p1)] : List Value).toArray) below meth c H locs 0 0 (MQ below (dQV g m0) (([.ref (dad g p0), .ref (dad g p1)] : List Value).toArray) s 0 0 (dA g)) (F0 mth 29 ls [])) q) ?_ dFl _ qL1 hqL1 ?_ H locs ls hP hS (lv_sub hl [0, 1, 2] rfl)
  · intro q o h hCL1 hEL1
    obtain ⟨v2, m3⟩ := q
    have h : fX9_copy_l2 p0 p1 v2 m3 = some o := h
    intro H locs ls hP hS hl
    have hP : va_P g.1 vwCl (dws g m3) H := hP
    have hl : lv_has ls 3 [(2, .int v2), (0, .ref (dad g p0)), (1, .ref (dad g p1))] := hl
    unfold fX9_copy_l2 at h
    refine lv_iload_n S.1 S.2.1 dX9_copy_2 rfl (lv_at hl 0 rfl) ?_
    refine lv_bipush (v := 10) S.1 S.2.1 dX9_copy_3 (by decide) ?_
    refine lv_icmp_ge (tgt := 29) S.1 S.2.1 dX9_copy_5 (by decide) (fun c => ?_) (fun c => ?_)
    · have h := d_t c h
      obtain rfl := Option.some.inj h
      exact hEL1 _ rfl H locs ls hP hS (lv_sub hl [] rfl)
    · have h := d_f c h
      refine lv_aload_n S.1 S.2.1 dX9_copy_8 rfl (lv_at hl 1 rfl) ?_
      refine lv_iload_n S.1 S.2.1 dX9_copy_9 rfl (lv_at hl 0 rfl) ?_
      refine lv_aload_n S.1 S.2.1 dX9_copy_10 rfl (lv_at hl 2 rfl) ?_
      refine lv_iload_n S.1 S.2.1 dX9_copy_11 rfl (lv_at hl 0 rfl) ?_
      obtain ⟨v12, hc11, h⟩ := d_b h
      refine dri (va_runV (As := [.int v2]) (rest := [.int v2, .ref (dad g p0)]) S (kX9_x l g hc11) (cwV 1 S.2.2.2.2 gX9_copy_X9_x rfl rfl rfl ynX9_x ⟨Nat.le_of_ble_eq_true rfl, Nat.le_of_ble_eq_true rfl⟩) (dpV hE hP hS (ci := 9) rfl (dat10 k1)) rfl rfl hl.1 rfl (lv_room (Nat.le_of_ble_eq_true rfl)) dX9_copy_12 ⟨Nat.le_refl _, Nat.le_refl _⟩) hS (fun H locs hP hS => ?_)
      refine lv_aload_n S.1 S.2.1 dX9_copy_15 rfl (lv_at hl 2 rfl) ?_
      refine lv_iload_n S.1 S.2.1 dX9_copy_16 rfl (lv_at hl 0 rfl) ?_
      obtain ⟨v14, hc13, h⟩ := d_b h
      refine dri (va_runV (As := [.int v2]) (rest := [.int v12, .int v2, .ref (dad g p0)]) S (kX9_y l g hc13) (cwV 1 S.2.2.2.2 gX9_copy_X9_y rfl rfl rfl ynX9_y ⟨Nat.le_of_ble_eq_true rfl, Nat.le_of_ble_eq_true rfl⟩) (dpV hE hP hS (ci := 9) rfl (dat10 k1)) rfl rfl hl.1 rfl (lv_room (Nat.le_of_ble_eq_true rfl)) dX9_copy_17 ⟨Nat.le_refl _, Nat.le_refl _⟩) hS (fun H locs hP hS => ?_)
      obtain ⟨m16, hc15, h⟩ := d_b h
      refine drv (va_runV (As := [.int v2, .int v12, .int v14]) (rest := []) S (kX9_put l g hc15) (cwV 3 S.2.2.2.2 gX9_copy_X9_put rfl rfl rfl ynX9_put ⟨Nat.le_of_ble_eq_true rfl, Nat.le_of_ble_eq_true rfl⟩) (dpV hE hP hS (ci := 9) rfl (dat10 k0)) rfl rfl hl.1 rfl (lv_room (Nat.le_of_ble_eq_true rfl)) dX9_copy_20 ⟨Nat.le_refl _, Nat.le_refl _⟩) hS (fun H locs hP hS => ?_)
      obtain ⟨v17, ev17⟩ : ∃ z : Int32, z = v2 + 1 := ⟨_, rfl⟩
      have h := d_let ev17 h
      refine lv_iinc (v := v17) (lv' := [(2, .int v17), (0, .ref (dad g p0)), (1, .ref (dad g p1))]) S.1 S.2.1 dX9_copy_23 hl (k := 0) rfl (by rw [ev17]; rfl) (by decide) rfl (fun ls hl => ?_)
      refine lv_goto (tgt := 2) S.1 S.2.1 dX9_copy_26 (by decide) ?_
      obtain rfl := Option.some.inj h
      exact hCL1 _ rfl H locs ls hP hS (lv_sub hl [0, 1, 2] rfl)
  · obtain ⟨m18, rfl⟩ : ∃ z, z = qL1 := ⟨_, rfl⟩
    have h := d_p1 h
    intro H locs ls hP hS hl
    have hP : va_P g.1 vwCl (dws g m18) H := hP
    have hl : lv_has ls 3 [] := hl
    obtain rfl := Option.some.inj h
    exact dtv S hr hlk hE hP hS dX9_copy_29
