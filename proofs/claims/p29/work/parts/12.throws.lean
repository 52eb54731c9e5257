set_option maxRecDepth 20000 in
theorem ggX11_needIndex_X11_isWithin : GoodIn wsX11_needIndex wsX11_isWithin := goodIn_r _ [6] (by decide +kernel) (by decide +kernel)
set_option maxRecDepth 20000 in
theorem gX11_needIndex_X11_isWithin : GoodIn wsX11_needIndex (va_wsS RX11 263 yX11_isWithin wsX11_isWithin) := goodIn_app (goodIn_of _ (by decide +kernel)) ggX11_needIndex_X11_isWithin
theorem dX11_needIndex_0 : decode cX11_needIndex 0 = .ok (.iload_n 0, 1) := by decide +kernel
theorem dX11_needIndex_1 : decode cX11_needIndex 1 = .ok (.iconst 0, 1) := by decide +kernel
theorem dX11_needIndex_2 : decode cX11_needIndex 2 = .ok (.iload_n 1, 1) := by decide +kernel
theorem dX11_needIndex_3 : decode cX11_needIndex 3 = .ok (.iconst 1, 1) := by decide +kernel
theorem dX11_needIndex_4 : decode cX11_needIndex 4 = .ok (.isub, 1) := by decide +kernel
theorem dX11_needIndex_5 : decode cX11_needIndex 5 = .ok (.invokestatic 263, 3) := by decide +kernel
theorem dX11_needIndex_8 : decode cX11_needIndex 8 = .ok (.ifCond .ne 14, 3) := by decide +kernel
theorem dX11_needIndex_11 : decode cX11_needIndex 11 = .ok (.new 269, 3) := by decide +kernel
theorem dX11_needIndex_14 : decode cX11_needIndex 14 = .ok (.dup, 1) := by decide +kernel
theorem dX11_needIndex_15 : decode cX11_needIndex 15 = .ok (.ldc_w 271, 3) := by decide +kernel
theorem dX11_needIndex_18 : decode cX11_needIndex 18 = .ok (.invokespecial 273, 3) := by decide +kernel
theorem dX11_needIndex_21 : decode cX11_needIndex 21 = .ok (.athrow, 1) := by decide +kernel
theorem dX11_needIndex_22 : decode cX11_needIndex 22 = .ok (.return_, 1) := by decide +kernel
theorem twX11_needIndex_11 : ∀ w ∈ (vx_atS RX11 273 (dEx 3) dNms).filter (fun w => !goodWord w), w ∈ [Cond.declares (Bundle.initS "java/lang/RuntimeException"), Cond.declares (Bundle.initS "java/lang/Exception"), Cond.declares (Bundle.initS Bundle.tN), Cond.castable (dEx 3) (dEx 3)] := by decide +kernel
theorem toX11_needIndex_11 : ∀ w ∈ Cond.classLink RX11 269 (dEx 3) :: Cond.initialized (dEx 3) :: vx_atS RX11 273 (dEx 3) dNms, vx_ot w = true := by decide +kernel
def fX11_needIndex (m : dM) (p0 : Int32) (p1 : Int32) : Option ((Nat × dM) ⊕ dM) := (fX11_isWithin m p0 0 (p1 - 1)).bind (fun v2 => if v2 = 0 then some (.inl (3, m)) else some (.inr m))
set_option maxHeartbeats 4000000 in
set_option maxRecDepth 100000 in
theorem kX11_needIndex (l : Launch) (g : dG) (hst : l.stackTraces = false) {m : dM} {p0 : Int32} {p1 : Int32} {o : ((Nat × dM) ⊕ dM)} (h : fX11_needIndex m p0 p1 = some o) : dXMet l g yX11_needIndex wsX11_needIndex 6 90 1 [.int p0, .int p1] m o (dXV g o) := by
  refine dxof (cc := cX11_needIndex) (maxL := 2) (ret := none) _ (by decide) rfl (Nat.le_of_ble_eq_true rfl) ?_
  intro p e s mth below meth c S hr hlk hnt hE H ls hP hS hl
  have S : CallFix p mth c cX11_needIndex 2 s _ wsX11_needIndex RX11 := S
  have hl : lv_has ls 2 [(0, .int p0), (1, .int p1)] := hl
  obtain ⟨locs, hlocs⟩ : ∃ z : List Loc, z = [] := ⟨_, rfl⟩
  rw [← hlocs] at hS ⊢
  unfold fX11_needIndex at h
  refine lv_iload_n S.1 S.2.1 dX11_needIndex_0 rfl (lv_at hl 0 rfl) ?_
  refine lv_iconst (v := 0) S.1 S.2.1 dX11_needIndex_1 (by decide) ?_
  refine lv_iload_n S.1 S.2.1 dX11_needIndex_2 rfl (lv_at hl 1 rfl) ?_
  refine lv_iconst (v := 1) S.1 S.2.1 dX11_needIndex_3 (by decide) ?_
  refine lv_isub S.1 S.2.1 dX11_needIndex_4 ?_
  obtain ⟨v2, hc1, h⟩ := d_b h
  refine dri (va_runS (As := [.int p0, .int 0, .int (p1 - 1)]) (rest := []) S (kX11_isWithin l g hc1) (va_cwS 3 S.2.2.2.2 gX11_needIndex_X11_isWithin rfl rfl rfl ynX11_isWithin ⟨Nat.le_of_ble_eq_true rfl, Nat.le_of_ble_eq_true rfl⟩) (dpS hE hP hS) rfl rfl hl.1 rfl (lv_room (Nat.le_of_ble_eq_true rfl)) dX11_needIndex_5 ⟨Nat.le_of_ble_eq_true rfl, Nat.le_of_ble_eq_true rfl⟩) hS (fun H locs hP hS => ?_)
  refine lv_if_ne (tgt := 22) S.1 S.2.1 dX11_needIndex_8 (by decide) (fun cq => ?_) (fun cq => ?_)
  · have h := d_f cq h
    obtain rfl := Option.some.inj h
    exact dxtv rfl S hr hlk hE hP hS (Nat.le_of_ble_eq_true rfl) (Nat.le_of_ble_eq_true rfl) dX11_needIndex_22
  · have h := d_t cq h
    obtain rfl := Option.some.inj h
    exact dx_throwSW (k := 3) (text := "there is no such number") rfl S hst hlk hnt hE hP hS (by decide) (by decide) hl.1 (S.2.2.2.2 (.classLink RX11 269 "java/lang/IndexOutOfBoundsException") (List.mem_of_getElem? (i := 1) rfl)) (S.2.2.2.2 (.initialized "java/lang/IndexOutOfBoundsException") (List.mem_of_getElem? (i := 2) rfl)) (by decide) (fun w hw => List.mem_cons_of_mem _ (List.mem_append_right _ hw)) twX11_needIndex_11 toX11_needIndex_11 dX11_needIndex_11 dX11_needIndex_14 dX11_needIndex_15 dX11_needIndex_18 dX11_needIndex_21 ⟨Nat.le_of_ble_eq_true rfl, Nat.le_of_ble_eq_true rfl, Nat.le_of_ble_eq_true rfl, Nat.le_of_ble_eq_true rfl⟩ (Nat.le_of_ble_eq_true rfl) (Nat.le_of_ble_eq_true rfl)
set_option maxRecDepth 20000 in
theorem ggX11_needDot_X1_number : GoodIn wsX11_needDot wsX1_number := goodIn_r _ [6, 7, 25, 26, 27, 28, 29] (by decide +kernel) (by decide +kernel)
set_option maxRecDepth 20000 in
theorem gX11_needDot_X1_number : GoodIn wsX11_needDot (wsV RX11 119 RX1 yX1_number wsX1_number) := goodIn_app (goodIn_of _ (by decide +kernel)) ggX11_needDot_X1_number
set_option maxRecDepth 20000 in
theorem ggX11_needDot_X11_needIndex : GoodIn wsX11_needDot wsX11_needIndex := goodIn_ca (goodIn_r _ [11, 12, 13, 14, 15, 10, 16] (by decide +kernel) (by decide +kernel)) (goodIn_sub (fun _ h => List.mem_cons_of_mem _ (List.mem_append_right _ h)) (by decide +kernel))
set_option maxRecDepth 20000 in
theorem gX11_needDot_X11_needIndex : GoodIn wsX11_needDot (va_wsS RX11 103 yX11_needIndex wsX11_needIndex) := goodIn_app (goodIn_of _ (by decide +kernel)) ggX11_needDot_X11_needIndex
theorem dX11_needDot_0 : decode cX11_needDot 0 = .ok (.iload_n 1, 1) := by decide +kernel
theorem dX11_needDot_1 : decode cX11_needDot 1 = .ok (.aload_n 0, 1) := by decide +kernel
theorem dX11_needDot_2 : decode cX11_needDot 2 = .ok (.getfield 10, 3) := by decide +kernel
theorem dX11_needDot_5 : decode cX11_needDot 5 = .ok (.invokevirtual 119, 3) := by decide +kernel
theorem dX11_needDot_8 : decode cX11_needDot 8 = .ok (.invokestatic 103, 3) := by decide +kernel
theorem dX11_needDot_11 : decode cX11_needDot 11 = .ok (.return_, 1) := by decide +kernel
def fX11_needDot (m : dM) (p0 : Nat) (p1 : Int32) : Option ((Nat × dM) ⊕ dM) := dg (dkg p0 12) ((fX1_number m 1).bind (fun v2 => (fX11_needIndex m p1 v2).bind (fun q => dS q (fun x => some (.inl x)) (fun m4 => some (.inr m4)))))
set_option maxHeartbeats 4000000 in
set_option maxRecDepth 100000 in
theorem kX11_needDot (l : Launch) (g : dG) (hst : l.stackTraces = false) {m : dM} {p0 : Nat} {p1 : Int32} {o : ((Nat × dM) ⊕ dM)} (h : fX11_needDot m p0 p1 = some o) : dXMet l g yX11_needDot wsX11_needDot 7 111 1 [.ref (dad g p0), .int p1] m o (dXV g o) := by
  refine dxof (cc := cX11_needDot) (maxL := 2) (ret := none) _ (by decide) rfl (Nat.le_of_ble_eq_true rfl) ?_
  intro p e s mth below meth c S hr hlk hnt hE H ls hP hS hl
  have S : CallFix p mth c cX11_needDot 2 s _ wsX11_needDot RX11 := S
  have hl : lv_has ls 2 [(0, .ref (dad g p0)), (1, .int p1)] := hl
  obtain ⟨locs, hlocs⟩ : ∃ z : List Loc, z = [] := ⟨_, rfl⟩
  rw [← hlocs] at hS ⊢
  have in11 : ∀ w ∈ wsX110, w ∈ wsX11_needDot := by decide +kernel
  unfold fX11_needDot at h
  obtain ⟨k0, h⟩ := d_g h
  have k0 := d_k k0
  refine lv_iload_n S.1 S.2.1 dX11_needDot_0 rfl (lv_at hl 1 rfl) ?_
  refine lv_aload_n S.1 S.2.1 dX11_needDot_1 rfl (lv_at hl 0 rfl) ?_
  refine dgf11_0 S in11 hE hP k0 (S.2.2.2.2 (.fieldLink RX11 10 "DrillField" "dots" "LDrillField$Dots;") (List.mem_of_getElem? (i := 1) rfl)) dX11_needDot_2 ?_
  obtain ⟨v2, hc1, h⟩ := d_b h
  refine dri (va_runV (As := []) (rest := [.int p1]) S (kX1_number l g hc1) (cwV 0 S.2.2.2.2 gX11_needDot_X1_number rfl rfl rfl ynX1_number ⟨Nat.le_of_ble_eq_true rfl, Nat.le_of_ble_eq_true rfl⟩) (dpV hE hP hS (ci := 1) rfl (dat2 dk_1)) rfl rfl hl.1 rfl (lv_room (Nat.le_of_ble_eq_true rfl)) dX11_needDot_5 ⟨Nat.le_of_ble_eq_true rfl, Nat.le_of_ble_eq_true rfl⟩) hS (fun H locs hP hS => ?_)
  obtain ⟨q5, hc3, h⟩ := d_b h
  refine dxrv (o := q5) (vx_runS (As := [.int p1, .int v2]) (rest := []) S (kX11_needIndex l g hst hc3) (va_cwS 2 S.2.2.2.2 gX11_needDot_X11_needIndex rfl rfl rfl ynX11_needIndex ⟨Nat.le_of_ble_eq_true rfl, Nat.le_of_ble_eq_true rfl⟩) (dpS hE hP hS) rfl rfl hl.1 rfl (lv_room (Nat.le_of_ble_eq_true rfl)) dX11_needDot_8 ⟨Nat.le_of_ble_eq_true rfl, Nat.le_of_ble_eq_true rfl⟩) hS (fun u6 q9 ce H locs eo hP hS h1 h2 h3 => ?_) (fun m4 H locs eo hP hS => ?_)
  · subst eo
    have h := d_s1 h
    obtain rfl := Option.some.inj h
    exact dxout rfl hnt hlk hP hS h1 h2 h3 (Nat.le_of_ble_eq_true rfl) (Nat.le_of_ble_eq_true rfl)
  · subst eo
    have h := d_s2 h
    obtain rfl := Option.some.inj h
    exact dxtv rfl S hr hlk hE hP hS (Nat.le_of_ble_eq_true rfl) (Nat.le_of_ble_eq_true rfl) dX11_needDot_11
set_option maxRecDepth 20000 in
theorem ggX11_alternate_X11_needIndex : GoodIn wsX11_alternate wsX11_needIndex := goodIn_ca (goodIn_r _ [5, 6, 7, 8, 9, 4, 10] (by decide +kernel) (by decide +kernel)) (goodIn_sub (fun _ h => List.mem_cons_of_mem _ (List.mem_append_right _ h)) (by decide +kernel))
set_option maxRecDepth 20000 in
theorem gX11_alternate_X11_needIndex : GoodIn wsX11_alternate (va_wsS RX11 103 yX11_needIndex wsX11_needIndex) := goodIn_app (goodIn_of _ (by decide +kernel)) ggX11_alternate_X11_needIndex
set_option maxRecDepth 20000 in
theorem ggX11_alternate_X11_needDot : GoodIn wsX11_alternate wsX11_needDot := goodIn_ca (goodIn_r _ [14, 1, 15, 16, 17, 18, 19, 20, 2, 3, 4, 5, 6, 7, 8, 9, 10, 27, 28, 29, 30, 31, 32, 33, 34, 35, 36, 37, 38, 39] (by decide +kernel) (by decide +kernel)) (goodIn_sub (fun _ h => List.mem_cons_of_mem _ (List.mem_append_right _ h)) (by decide +kernel))
set_option maxRecDepth 20000 in
theorem gX11_alternate_X11_needDot : GoodIn wsX11_alternate (wsV RX11 84 RX11 yX11_needDot wsX11_needDot) := goodIn_app (goodIn_of _ (by decide +kernel)) ggX11_alternate_X11_needDot
set_option maxRecDepth 20000 in
theorem ggX11_alternate_X1_teach : GoodIn wsX11_alternate wsX1_teach := goodIn_r _ [24, 25, 26, 9, 4, 10, 35, 36, 37, 38, 39] (by decide +kernel) (by decide +kernel)
set_option maxRecDepth 20000 in
theorem gX11_alternate_X1_teach : GoodIn wsX11_alternate (wsV RX11 106 RX1 yX1_teach wsX1_teach) := goodIn_app (goodIn_of _ (by decide +kernel)) ggX11_alternate_X1_teach
theorem dX11_alternate_0 : decode cX11_alternate 0 = .ok (.iload_n 1, 1) := by decide +kernel
theorem dX11_alternate_1 : decode cX11_alternate 1 = .ok (.iconst 3, 1) := by decide +kernel
theorem dX11_alternate_2 : decode cX11_alternate 2 = .ok (.invokestatic 103, 3) := by decide +kernel
theorem dX11_alternate_5 : decode cX11_alternate 5 = .ok (.iload_n 2, 1) := by decide +kernel
theorem dX11_alternate_6 : decode cX11_alternate 6 = .ok (.iconst (-1), 1) := by decide +kernel
theorem dX11_alternate_7 : decode cX11_alternate 7 = .ok (.if_icmp .eq 8, 3) := by decide +kernel
theorem dX11_alternate_10 : decode cX11_alternate 10 = .ok (.aload_n 0, 1) := by decide +kernel
theorem dX11_alternate_11 : decode cX11_alternate 11 = .ok (.iload_n 2, 1) := by decide +kernel
theorem dX11_alternate_12 : decode cX11_alternate 12 = .ok (.invokevirtual 84, 3) := by decide +kernel
theorem dX11_alternate_15 : decode cX11_alternate 15 = .ok (.aload_n 0, 1) := by decide +kernel
theorem dX11_alternate_16 : decode cX11_alternate 16 = .ok (.getfield 10, 3) := by decide +kernel
theorem dX11_alternate_19 : decode cX11_alternate 19 = .ok (.iload_n 1, 1) := by decide +kernel
theorem dX11_alternate_20 : decode cX11_alternate 20 = .ok (.iload_n 2, 1) := by decide +kernel
theorem dX11_alternate_21 : decode cX11_alternate 21 = .ok (.iload_n 3, 1) := by decide +kernel
theorem dX11_alternate_22 : decode cX11_alternate 22 = .ok (.invokevirtual 106, 3) := by decide +kernel
theorem dX11_alternate_25 : decode cX11_alternate 25 = .ok (.return_, 1) := by decide +kernel
def fX11_alternate (m : dM) (p0 : Nat) (p1 : Int32) (p2 : Int32) (p3 : Int32) : Option ((Nat × dM) ⊕ dM) := dg (dkg p0 12) ((fX11_needIndex m p1 3).bind (fun q => dS q (fun x => some (.inl x)) (fun m2 => if p2 = (-1) then (fX1_teach m2 1 p1 p2 p3).bind (fun m6 => some (.inr m6)) else (fX11_needDot m2 p0 p2).bind (fun q => dS q (fun x => some (.inl x)) (fun m8 => (fX1_teach m8 1 p1 p2 p3).bind (fun m12 => some (.inr m12)))))))
set_option maxHeartbeats 4000000 in
set_option maxRecDepth 100000 in
theorem kX11_alternate (l : Launch) (g : dG) (hst : l.stackTraces = false) {m : dM} {p0 : Nat} {p1 : Int32} {p2 : Int32} {p3 : Int32} {o : ((Nat × dM) ⊕ dM)} (h : fX11_alternate m p0 p1 p2 p3 = some o) : dXMet l g yX11_alternate wsX11_alternate 8 132 2 [.ref (dad g p0), .int p1, .int p2, .int p3] m o (dXV g o) := by
  refine dxof (cc := cX11_alternate) (maxL := 4) (ret := none) _ (by decide) rfl (Nat.le_of_ble_eq_true rfl) ?_
  intro p e s mth below meth c S hr hlk hnt hE H ls hP hS hl
  have S : CallFix p mth c cX11_alternate 4 s _ wsX11_alternate RX11 := S
  have hl : lv_has ls 4 [(0, .ref (dad g p0)), (1, .int p1), (2, .int p2), (3, .int p3)] := hl
  obtain ⟨locs, hlocs⟩ : ∃ z : List Loc, z = [] := ⟨_, rfl⟩
  rw [← hlocs] at hS ⊢
  have in11 : ∀ w ∈ wsX110, w ∈ wsX11_alternate := by decide +kernel
  unfold fX11_alternate at h
  obtain ⟨k0, h⟩ := d_g h
  have k0 := d_k k0
  refine lv_iload_n S.1 S.2.1 dX11_alternate_0 rfl (lv_at hl 1 rfl) ?_
  refine lv_iconst (v := 3) S.1 S.2.1 dX11_alternate_1 (by decide) ?_
  obtain ⟨q3, hc1, h⟩ := d_b h
  refine dxrv (o := q3) (vx_runS (As := [.int p1, .int 3]) (rest := []) S (kX11_needIndex l g hst hc1) (va_cwS 2 S.2.2.2.2 gX11_alternate_X11_needIndex rfl rfl rfl ynX11_needIndex ⟨Nat.le_of_ble_eq_true rfl, Nat.le_of_ble_eq_true rfl⟩) (dpS hE hP hS) rfl rfl hl.1 rfl (lv_room (Nat.le_of_ble_eq_true rfl)) dX11_alternate_2 ⟨Nat.le_of_ble_eq_true rfl, Nat.le_of_ble_eq_true rfl⟩) hS (fun u4 q9 ce H locs eo hP hS h1 h2 h3 => ?_) (fun m2 H locs eo hP hS => ?_)
  · subst eo
    have h := d_s1 h
    obtain rfl := Option.some.inj h
    exact dxout rfl hnt hlk hP hS h1 h2 h3 (Nat.le_of_ble_eq_true rfl) (Nat.le_of_ble_eq_true rfl)
  · subst eo
    have h := d_s2 h
    refine lv_iload_n S.1 S.2.1 dX11_alternate_5 rfl (lv_at hl 2 rfl) ?_
    refine lv_iconst (v := (-1)) S.1 S.2.1 dX11_alternate_6 (by decide) ?_
    refine lv_icmp_eq (tgt := 15) S.1 S.2.1 dX11_alternate_7 (by decide) (fun cq => ?_) (fun cq => ?_)
    · have h := d_t cq h
      refine lv_aload_n S.1 S.2.1 dX11_alternate_15 rfl (lv_at hl 0 rfl) ?_
      refine dgf11_0 S in11 hE hP k0 (S.2.2.2.2 (.fieldLink RX11 10 "DrillField" "dots" "LDrillField$Dots;") (List.mem_of_getElem? (i := 1) rfl)) dX11_alternate_16 ?_
      refine lv_iload_n S.1 S.2.1 dX11_alternate_19 rfl (lv_at hl 1 rfl) ?_
      refine lv_iload_n S.1 S.2.1 dX11_alternate_20 rfl (lv_at hl 2 rfl) ?_
      refine lv_iload_n S.1 S.2.1 dX11_alternate_21 rfl (lv_at hl 3 rfl) ?_
      obtain ⟨m6, hc5, h⟩ := d_b h
      refine drv (va_runV (As := [.int p1, .int p2, .int p3]) (rest := []) S (kX1_teach l g hc5) (cwV 3 S.2.2.2.2 gX11_alternate_X1_teach rfl rfl rfl ynX1_teach ⟨Nat.le_of_ble_eq_true rfl, Nat.le_of_ble_eq_true rfl⟩) (dpV hE hP hS (ci := 1) rfl (dat2 dk_1)) rfl rfl hl.1 rfl (lv_room (Nat.le_of_ble_eq_true rfl)) dX11_alternate_22 ⟨Nat.le_of_ble_eq_true rfl, Nat.le_of_ble_eq_true rfl⟩) hS (fun H locs hP hS => ?_)
      obtain rfl := Option.some.inj h
      exact dxtv rfl S hr hlk hE hP hS (Nat.le_of_ble_eq_true rfl) (Nat.le_of_ble_eq_true rfl) dX11_alternate_25
    · have h := d_f cq h
      refine lv_aload_n S.1 S.2.1 dX11_alternate_10 rfl (lv_at hl 0 rfl) ?_
      refine lv_iload_n S.1 S.2.1 dX11_alternate_11 rfl (lv_at hl 2 rfl) ?_
      obtain ⟨q9, hc7, h⟩ := d_b h
      refine dxrv (o := q9) (vx_runV (As := [.int p2]) (rest := []) S (kX11_needDot l g hst hc7) (cwV 1 S.2.2.2.2 gX11_alternate_X11_needDot rfl rfl rfl ynX11_needDot ⟨Nat.le_of_ble_eq_true rfl, Nat.le_of_ble_eq_true rfl⟩) (dpV hE hP hS (ci := 11) rfl (dat12 k0)) rfl rfl hl.1 rfl (lv_room (Nat.le_of_ble_eq_true rfl)) dX11_alternate_12 ⟨Nat.le_of_ble_eq_true rfl, Nat.le_of_ble_eq_true rfl⟩) hS (fun u10 q9 ce H locs eo hP hS h1 h2 h3 => ?_) (fun m8 H locs eo hP hS => ?_)
      · subst eo
        have h := d_s1 h
        obtain rfl := Option.some.inj h
        exact dxout rfl hnt hlk hP hS h1 h2 h3 (Nat.le_of_ble_eq_true rfl) (Nat.le_of_ble_eq_true rfl)
      · subst eo
        have h := d_s2 h
        refine lv_aload_n S.1 S.2.1 dX11_alternate_15 rfl (lv_at hl 0 rfl) ?_
        refine dgf11_0 S in11 hE hP k0 (S.2.2.2.2 (.fieldLink RX11 10 "DrillField" "dots" "LDrillField$Dots;") (List.mem_of_getElem? (i := 1) rfl)) dX11_alternate_16 ?_
        refine lv_iload_n S.1 S.2.1 dX11_alternate_19 rfl (lv_at hl 1 rfl) ?_
        refine lv_iload_n S.1 S.2.1 dX11_alternate_20 rfl (lv_at hl 2 rfl) ?_
        refine lv_iload_n S.1 S.2.1 dX11_alternate_21 rfl (lv_at hl 3 rfl) ?_
        obtain ⟨m12, hc11, h⟩ := d_b h
        refine drv (va_runV (As := [.int p1, .int p2, .int p3]) (rest := []) S (kX1_teach l g hc11) (cwV 3 S.2.2.2.2 gX11_alternate_X1_teach rfl rfl rfl ynX1_teach ⟨Nat.le_of_ble_eq_true rfl, Nat.le_of_ble_eq_true rfl⟩) (dpV hE hP hS (ci := 1) rfl (dat2 dk_1)) rfl rfl hl.1 rfl (lv_room (Nat.le_of_ble_eq_true rfl)) dX11_alternate_22 ⟨Nat.le_of_ble_eq_true rfl, Nat.le_of_ble_eq_true rfl⟩) hS (fun H locs hP hS => ?_)
        obtain rfl := Option.some.inj h
        exact dxtv rfl S hr hlk hE hP hS (Nat.le_of_ble_eq_true rfl) (Nat.le_of_ble_eq_true rfl) dX11_alternate_25
set_option maxRecDepth 20000 in
theorem ggX11_needPart_X8_number : GoodIn wsX11_needPart wsX8_number := goodIn_r _ [6, 7, 25, 26, 27, 28] (by decide +kernel) (by decide +kernel)
set_option maxRecDepth 20000 in
theorem gX11_needPart_X8_number : GoodIn wsX11_needPart (wsV RX11 134 RX8 yX8_number wsX8_number) := goodIn_app (goodIn_of _ (by decide +kernel)) ggX11_needPart_X8_number
set_option maxRecDepth 20000 in
theorem ggX11_needPart_X11_needIndex : GoodIn wsX11_needPart wsX11_needIndex := goodIn_ca (goodIn_r _ [11, 12, 13, 14, 15, 10, 16] (by decide +kernel) (by decide +kernel)) (goodIn_sub (fun _ h => List.mem_cons_of_mem _ (List.mem_append_right _ h)) (by decide +kernel))
set_option maxRecDepth 20000 in
theorem gX11_needPart_X11_needIndex : GoodIn wsX11_needPart (va_wsS RX11 103 yX11_needIndex wsX11_needIndex) := goodIn_app (goodIn_of _ (by decide +kernel)) ggX11_needPart_X11_needIndex
theorem dX11_needPart_0 : decode cX11_needPart 0 = .ok (.iload_n 1, 1) := by decide +kernel
theorem dX11_needPart_1 : decode cX11_needPart 1 = .ok (.aload_n 0, 1) := by decide +kernel
theorem dX11_needPart_2 : decode cX11_needPart 2 = .ok (.getfield 26, 3) := by decide +kernel
theorem dX11_needPart_5 : decode cX11_needPart 5 = .ok (.invokevirtual 134, 3) := by decide +kernel
theorem dX11_needPart_8 : decode cX11_needPart 8 = .ok (.invokestatic 103, 3) := by decide +kernel
theorem dX11_needPart_11 : decode cX11_needPart 11 = .ok (.return_, 1) := by decide +kernel
def fX11_needPart (m : dM) (p0 : Nat) (p1 : Int32) : Option ((Nat × dM) ⊕ dM) := dg (dkg p0 12) ((fX8_number m 47).bind (fun v2 => (fX11_needIndex m p1 v2).bind (fun q => dS q (fun x => some (.inl x)) (fun m4 => some (.inr m4)))))
set_option maxHeartbeats 4000000 in
set_option maxRecDepth 100000 in
theorem kX11_needPart (l : Launch) (g : dG) (hst : l.stackTraces = false) {m : dM} {p0 : Nat} {p1 : Int32} {o : ((Nat × dM) ⊕ dM)} (h : fX11_needPart m p0 p1 = some o) : dXMet l g yX11_needPart wsX11_needPart 7 111 1 [.ref (dad g p0), .int p1] m o (dXV g o) := by
  refine dxof (cc := cX11_needPart) (maxL := 2) (ret := none) _ (by decide) rfl (Nat.le_of_ble_eq_true rfl) ?_
  intro p e s mth below meth c S hr hlk hnt hE H ls hP hS hl
  have S : CallFix p mth c cX11_needPart 2 s _ wsX11_needPart RX11 := S
  have hl : lv_has ls 2 [(0, .ref (dad g p0)), (1, .int p1)] := hl
  obtain ⟨locs, hlocs⟩ : ∃ z : List Loc, z = [] := ⟨_, rfl⟩
  rw [← hlocs] at hS ⊢
  have in11 : ∀ w ∈ wsX110, w ∈ wsX11_needPart := by decide +kernel
  unfold fX11_needPart at h
  obtain ⟨k0, h⟩ := d_g h
  have k0 := d_k k0
  refine lv_iload_n S.1 S.2.1 dX11_needPart_0 rfl (lv_at hl 1 rfl) ?_
  refine lv_aload_n S.1 S.2.1 dX11_needPart_1 rfl (lv_at hl 0 rfl) ?_
  refine dgf11_2 S in11 hE hP k0 (S.2.2.2.2 (.fieldLink RX11 26 "DrillField" "show" "LDrillField$Show;") (List.mem_of_getElem? (i := 1) rfl)) dX11_needPart_2 ?_
  obtain ⟨v2, hc1, h⟩ := d_b h
  refine dri (va_runV (As := []) (rest := [.int p1]) S (kX8_number l g hc1) (cwV 0 S.2.2.2.2 gX11_needPart_X8_number rfl rfl rfl ynX8_number ⟨Nat.le_of_ble_eq_true rfl, Nat.le_of_ble_eq_true rfl⟩) (dpV hE hP hS (ci := 8) rfl (dat9 dk_47)) rfl rfl hl.1 rfl (lv_room (Nat.le_of_ble_eq_true rfl)) dX11_needPart_5 ⟨Nat.le_of_ble_eq_true rfl, Nat.le_of_ble_eq_true rfl⟩) hS (fun H locs hP hS => ?_)
  obtain ⟨q5, hc3, h⟩ := d_b h
  refine dxrv (o := q5) (vx_runS (As := [.int p1, .int v2]) (rest := []) S (kX11_needIndex l g hst hc3) (va_cwS 2 S.2.2.2.2 gX11_needPart_X11_needIndex rfl rfl rfl ynX11_needIndex ⟨Nat.le_of_ble_eq_true rfl, Nat.le_of_ble_eq_true rfl⟩) (dpS hE hP hS) rfl rfl hl.1 rfl (lv_room (Nat.le_of_ble_eq_true rfl)) dX11_needPart_8 ⟨Nat.le_of_ble_eq_true rfl, Nat.le_of_ble_eq_true rfl⟩) hS (fun u6 q9 ce H locs eo hP hS h1 h2 h3 => ?_) (fun m4 H locs eo hP hS => ?_)
  · subst eo
    have h := d_s1 h
    obtain rfl := Option.some.inj h
    exact dxout rfl hnt hlk hP hS h1 h2 h3 (Nat.le_of_ble_eq_true rfl) (Nat.le_of_ble_eq_true rfl)
  · subst eo
    have h := d_s2 h
    obtain rfl := Option.some.inj h
    exact dxtv rfl S hr hlk hE hP hS (Nat.le_of_ble_eq_true rfl) (Nat.le_of_ble_eq_true rfl) dX11_needPart_11
set_option maxRecDepth 20000 in
theorem ggX11_needRange_X11_isWithin : GoodIn wsX11_needRange wsX11_isWithin := goodIn_r _ [6] (by decide +kernel) (by decide +kernel)
set_option maxRecDepth 20000 in
theorem gX11_needRange_X11_isWithin : GoodIn wsX11_needRange (va_wsS RX11 263 yX11_isWithin wsX11_isWithin) := goodIn_app (goodIn_of _ (by decide +kernel)) ggX11_needRange_X11_isWithin
theorem dX11_needRange_0 : decode cX11_needRange 0 = .ok (.iload_n 0, 1) := by decide +kernel
theorem dX11_needRange_1 : decode cX11_needRange 1 = .ok (.iload_n 1, 1) := by decide +kernel
theorem dX11_needRange_2 : decode cX11_needRange 2 = .ok (.iload_n 2, 1) := by decide +kernel
theorem dX11_needRange_3 : decode cX11_needRange 3 = .ok (.invokestatic 263, 3) := by decide +kernel
theorem dX11_needRange_6 : decode cX11_needRange 6 = .ok (.ifCond .ne 14, 3) := by decide +kernel
theorem dX11_needRange_9 : decode cX11_needRange 9 = .ok (.new 114, 3) := by decide +kernel
theorem dX11_needRange_12 : decode cX11_needRange 12 = .ok (.dup, 1) := by decide +kernel
theorem dX11_needRange_13 : decode cX11_needRange 13 = .ok (.ldc_w 267, 3) := by decide +kernel
theorem dX11_needRange_16 : decode cX11_needRange 16 = .ok (.invokespecial 118, 3) := by decide +kernel
theorem dX11_needRange_19 : decode cX11_needRange 19 = .ok (.athrow, 1) := by decide +kernel
theorem dX11_needRange_20 : decode cX11_needRange 20 = .ok (.return_, 1) := by decide +kernel
theorem twX11_needRange_9 : ∀ w ∈ (vx_atS RX11 118 (dEx 1) dNms).filter (fun w => !goodWord w), w ∈ [Cond.declares (Bundle.initS "java/lang/RuntimeException"), Cond.declares (Bundle.initS "java/lang/Exception"), Cond.declares (Bundle.initS Bundle.tN), Cond.castable (dEx 1) (dEx 1)] := by decide +kernel
theorem toX11_needRange_9 : ∀ w ∈ Cond.classLink RX11 114 (dEx 1) :: Cond.initialized (dEx 1) :: vx_atS RX11 118 (dEx 1) dNms, vx_ot w = true := by decide +kernel
def fX11_needRange (m : dM) (p0 : Int32) (p1 : Int32) (p2 : Int32) : Option ((Nat × dM) ⊕ dM) := (fX11_isWithin m p0 p1 p2).bind (fun v2 => if v2 = 0 then some (.inl (1, m)) else some (.inr m))
set_option maxHeartbeats 4000000 in
set_option maxRecDepth 100000 in
theorem kX11_needRange (l : Launch) (g : dG) (hst : l.stackTraces = false) {m : dM} {p0 : Int32} {p1 : Int32} {p2 : Int32} {o : ((Nat × dM) ⊕ dM)} (h : fX11_needRange m p0 p1 p2 = some o) : dXMet l g yX11_needRange wsX11_needRange 6 90 1 [.int p0, .int p1, .int p2] m o (dXV g o) := by
  refine dxof (cc := cX11_needRange) (maxL := 3) (ret := none) _ (by decide) rfl (Nat.le_of_ble_eq_true rfl) ?_
  intro p e s mth below meth c S hr hlk hnt hE H ls hP hS hl
  have S : CallFix p mth c cX11_needRange 3 s _ wsX11_needRange RX11 := S
  have hl : lv_has ls 3 [(0, .int p0), (1, .int p1), (2, .int p2)] := hl
  obtain ⟨locs, hlocs⟩ : ∃ z : List Loc, z = [] := ⟨_, rfl⟩
  rw [← hlocs] at hS ⊢
  unfold fX11_needRange at h
  refine lv_iload_n S.1 S.2.1 dX11_needRange_0 rfl (lv_at hl 0 rfl) ?_
  refine lv_iload_n S.1 S.2.1 dX11_needRange_1 rfl (lv_at hl 1 rfl) ?_
  refine lv_iload_n S.1 S.2.1 dX11_needRange_2 rfl (lv_at hl 2 rfl) ?_
  obtain ⟨v2, hc1, h⟩ := d_b h
  refine dri (va_runS (As := [.int p0, .int p1, .int p2]) (rest := []) S (kX11_isWithin l g hc1) (va_cwS 3 S.2.2.2.2 gX11_needRange_X11_isWithin rfl rfl rfl ynX11_isWithin ⟨Nat.le_of_ble_eq_true rfl, Nat.le_of_ble_eq_true rfl⟩) (dpS hE hP hS) rfl rfl hl.1 rfl (lv_room (Nat.le_of_ble_eq_true rfl)) dX11_needRange_3 ⟨Nat.le_of_ble_eq_true rfl, Nat.le_of_ble_eq_true rfl⟩) hS (fun H locs hP hS => ?_)
  refine lv_if_ne (tgt := 20) S.1 S.2.1 dX11_needRange_6 (by decide) (fun cq => ?_) (fun cq => ?_)
  · have h := d_f cq h
    obtain rfl := Option.some.inj h
    exact dxtv rfl S hr hlk hE hP hS (Nat.le_of_ble_eq_true rfl) (Nat.le_of_ble_eq_true rfl) dX11_needRange_20
  · have h := d_t cq h
    obtain rfl := Option.some.inj h
    exact dx_throwSW (k := 1) (text := "an argument is out of its range") rfl S hst hlk hnt hE hP hS (by decide) (by decide) hl.1 (S.2.2.2.2 (.classLink RX11 114 "java/lang/IllegalArgumentException") (List.mem_of_getElem? (i := 1) rfl)) (S.2.2.2.2 (.initialized "java/lang/IllegalArgumentException") (List.mem_of_getElem? (i := 2) rfl)) (by decide) (fun w hw => List.mem_cons_of_mem _ (List.mem_append_right _ hw)) twX11_needRange_9 toX11_needRange_9 dX11_needRange_9 dX11_needRange_12 dX11_needRange_13 dX11_needRange_16 dX11_needRange_19 ⟨Nat.le_of_ble_eq_true rfl, Nat.le_of_ble_eq_true rfl, Nat.le_of_ble_eq_true rfl, Nat.le_of_ble_eq_true rfl⟩ (Nat.le_of_ble_eq_true rfl) (Nat.le_of_ble_eq_true rfl)
set_option maxRecDepth 20000 in
theorem ggX11_at_X11_needPart : GoodIn wsX11_at wsX11_needPart := goodIn_ca (goodIn_r _ [6, 1, 7, 8, 9, 10, 11, 12, 13, 14, 5, 15, 16, 17, 18, 19, 20, 78, 79, 80, 81, 82, 83, 84, 85, 86, 87, 88, 89] (by decide +kernel) (by decide +kernel)) (goodIn_sub (fun _ h => List.mem_cons_of_mem _ (List.mem_append_left _ (List.mem_append_right _ h))) (by decide +kernel))
set_option maxRecDepth 20000 in
theorem gX11_at_X11_needPart : GoodIn wsX11_at (wsV RX11 154 RX11 yX11_needPart wsX11_needPart) := goodIn_app (goodIn_of _ (by decide +kernel)) ggX11_at_X11_needPart
set_option maxRecDepth 20000 in
theorem ggX11_at_X11_needDot : GoodIn wsX11_at wsX11_needDot := goodIn_ca (goodIn_r _ [24, 25, 26, 27, 28, 29, 30, 31, 13, 14, 5, 15, 16, 17, 18, 19, 20, 78, 79, 80, 81, 82, 83, 84, 85, 90, 91, 92, 93, 94] (by decide +kernel) (by decide +kernel)) (goodIn_sub (fun _ h => List.mem_cons_of_mem _ (List.mem_append_left _ (List.mem_append_right _ h))) (by decide +kernel))
set_option maxRecDepth 20000 in
theorem gX11_at_X11_needDot : GoodIn wsX11_at (wsV RX11 84 RX11 yX11_needDot wsX11_needDot) := goodIn_app (goodIn_of _ (by decide +kernel)) ggX11_at_X11_needDot
set_option maxRecDepth 20000 in
theorem ggX11_at_X8_numbered : GoodIn wsX11_at wsX8_numbered := goodIn_r _ [35, 36, 37, 19, 5, 20, 86, 87, 88, 89] (by decide +kernel) (by decide +kernel)
set_option maxRecDepth 20000 in
theorem gX11_at_X8_numbered : GoodIn wsX11_at (wsV RX11 140 RX8 yX8_numbered wsX8_numbered) := goodIn_app (goodIn_of _ (by decide +kernel)) ggX11_at_X8_numbered
set_option maxRecDepth 20000 in
theorem ggX11_at_X5_counts : GoodIn wsX11_at wsX5_counts := goodIn_r _ [42, 43, 95, 96, 97, 98, 99, 100, 101] (by decide +kernel) (by decide +kernel)
set_option maxRecDepth 20000 in
theorem gX11_at_X5_counts : GoodIn wsX11_at (wsV RX11 169 RX5 yX5_counts wsX5_counts) := goodIn_app (goodIn_of _ (by decide +kernel)) ggX11_at_X5_counts
set_option maxRecDepth 20000 in
theorem ggX11_at_X11_needRange : GoodIn wsX11_at wsX11_needRange := goodIn_ca (goodIn_r _ [46, 47, 48, 18, 19, 5, 20] (by decide +kernel) (by decide +kernel)) (goodIn_sub (fun _ h => List.mem_cons_of_mem _ (List.mem_append_right _ h)) (by decide +kernel))
set_option maxRecDepth 20000 in
theorem gX11_at_X11_needRange : GoodIn wsX11_at (va_wsS RX11 65 yX11_needRange wsX11_needRange) := goodIn_app (goodIn_of _ (by decide +kernel)) ggX11_at_X11_needRange
set_option maxRecDepth 20000 in
theorem ggX11_at_X5_xOf : GoodIn wsX11_at wsX5_xOf := goodIn_r _ [52, 53, 54, 43, 55, 56, 57, 58, 59, 60, 61, 5, 62, 63, 64, 65, 66, 67, 68, 95, 96, 97, 98, 99, 100, 101, 102, 103] (by decide +kernel) (by decide +kernel)
set_option maxRecDepth 20000 in
theorem gX11_at_X5_xOf : GoodIn wsX11_at (wsV RX11 172 RX5 yX5_xOf wsX5_xOf) := goodIn_app (goodIn_of _ (by decide +kernel)) ggX11_at_X5_xOf
set_option maxRecDepth 20000 in
theorem ggX11_at_X5_yOf : GoodIn wsX11_at wsX5_yOf := goodIn_r _ [72, 53, 54, 43, 73, 74, 75, 58, 76, 77, 61, 5, 62, 63, 64, 65, 66, 67, 68, 95, 96, 97, 98, 99, 100, 101, 102, 103] (by decide +kernel) (by decide +kernel)
set_option maxRecDepth 20000 in
theorem gX11_at_X5_yOf : GoodIn wsX11_at (wsV RX11 176 RX5 yX5_yOf wsX5_yOf) := goodIn_app (goodIn_of _ (by decide +kernel)) ggX11_at_X5_yOf
theorem dX11_at_0 : decode cX11_at 0 = .ok (.aload_n 0, 1) := by decide +kernel
theorem dX11_at_1 : decode cX11_at 1 = .ok (.iload_n 1, 1) := by decide +kernel
theorem dX11_at_2 : decode cX11_at 2 = .ok (.invokevirtual 154, 3) := by decide +kernel
theorem dX11_at_5 : decode cX11_at 5 = .ok (.aload_n 0, 1) := by decide +kernel
theorem dX11_at_6 : decode cX11_at 6 = .ok (.iload_n 3, 1) := by decide +kernel
theorem dX11_at_7 : decode cX11_at 7 = .ok (.invokevirtual 84, 3) := by decide +kernel
theorem dX11_at_10 : decode cX11_at 10 = .ok (.aload_n 0, 1) := by decide +kernel
theorem dX11_at_11 : decode cX11_at 11 = .ok (.getfield 26, 3) := by decide +kernel
theorem dX11_at_14 : decode cX11_at 14 = .ok (.iload_n 1, 1) := by decide +kernel
theorem dX11_at_15 : decode cX11_at 15 = .ok (.invokevirtual 140, 3) := by decide +kernel
theorem dX11_at_18 : decode cX11_at 18 = .ok (.astore 4, 2) := by decide +kernel
theorem dX11_at_20 : decode cX11_at 20 = .ok (.iload_n 2, 1) := by decide +kernel
theorem dX11_at_21 : decode cX11_at 21 = .ok (.iconst 0, 1) := by decide +kernel
theorem dX11_at_22 : decode cX11_at 22 = .ok (.aload 4, 2) := by decide +kernel
theorem dX11_at_24 : decode cX11_at 24 = .ok (.invokevirtual 169, 3) := by decide +kernel
theorem dX11_at_27 : decode cX11_at 27 = .ok (.invokestatic 65, 3) := by decide +kernel
theorem dX11_at_30 : decode cX11_at 30 = .ok (.sipush 2000, 3) := by decide +kernel
theorem dX11_at_33 : decode cX11_at 33 = .ok (.aload 4, 2) := by decide +kernel
theorem dX11_at_35 : decode cX11_at 35 = .ok (.iload_n 3, 1) := by decide +kernel
theorem dX11_at_36 : decode cX11_at 36 = .ok (.iload_n 2, 1) := by decide +kernel
theorem dX11_at_37 : decode cX11_at 37 = .ok (.invokevirtual 172, 3) := by decide +kernel
theorem dX11_at_40 : decode cX11_at 40 = .ok (.imul, 1) := by decide +kernel
theorem dX11_at_41 : decode cX11_at 41 = .ok (.aload 4, 2) := by decide +kernel
theorem dX11_at_43 : decode cX11_at 43 = .ok (.iload_n 3, 1) := by decide +kernel
theorem dX11_at_44 : decode cX11_at 44 = .ok (.iload_n 2, 1) := by decide +kernel
theorem dX11_at_45 : decode cX11_at 45 = .ok (.invokevirtual 176, 3) := by decide +kernel
theorem dX11_at_48 : decode cX11_at 48 = .ok (.iadd, 1) := by decide +kernel
theorem dX11_at_49 : decode cX11_at 49 = .ok (.ireturn, 1) := by decide +kernel
def fX11_at (m : dM) (p0 : Nat) (p1 : Int32) (p2 : Int32) (p3 : Int32) : Option ((Nat × dM) ⊕ (Int32 × dM)) := dg (dkg p0 12) ((fX11_needPart m p0 p1).bind (fun q => dS q (fun x => some (.inl x)) (fun m2 => (fX11_needDot m2 p0 p3).bind (fun q => dS q (fun x => some (.inl x)) (fun m6 => (fX8_numbered m6 47 p1).bind (fun v10 => dg (dkg v10 6) ((fX5_counts m6 v10).bind (fun v13 => (fX11_needRange m6 p2 0 v13).bind (fun q => dS q (fun x => some (.inl x)) (fun m15 => (fX5_xOf m15 v10 p3 p2).bind (fun v19 => (fX5_yOf m15 v10 p3 p2).bind (fun v21 => some (.inr ((2000 * v19) + v21, m15))))))))))))))
set_option maxHeartbeats 4000000 in
set_option maxRecDepth 100000 in
theorem kX11_at (l : Launch) (g : dG) (hst : l.stackTraces = false) {m : dM} {p0 : Nat} {p1 : Int32} {p2 : Int32} {p3 : Int32} {o : ((Nat × dM) ⊕ (Int32 × dM))} (h : fX11_at m p0 p1 p2 p3 = some o) : dXMet l g yX11_at wsX11_at 8 132 3 [.ref (dad g p0), .int p1, .int p2, .int p3] m o (dXI g o) := by
  refine dxof (cc := cX11_at) (maxL := 5) (ret := (some .int)) _ (by decide) rfl (Nat.le_of_ble_eq_true rfl) ?_
  intro p e s mth below meth c S hr hlk hnt hE H ls hP hS hl
  have S : CallFix p mth c cX11_at 5 s _ wsX11_at RX11 := S
  have hl : lv_has ls 5 [(0, .ref (dad g p0)), (1, .int p1), (2, .int p2), (3, .int p3)] := hl
  obtain ⟨locs, hlocs⟩ : ∃ z : List Loc, z = [] := ⟨_, rfl⟩
  rw [← hlocs] at hS ⊢
  have in11 : ∀ w ∈ wsX110, w ∈ wsX11_at := by decide +kernel
  unfold fX11_at at h
  obtain ⟨k0, h⟩ := d_g h
  have k0 := d_k k0
  refine lv_aload_n S.1 S.2.1 dX11_at_0 rfl (lv_at hl 0 rfl) ?_
  refine lv_iload_n S.1 S.2.1 dX11_at_1 rfl (lv_at hl 1 rfl) ?_
  obtain ⟨q3, hc1, h⟩ := d_b h
  refine dxrv (o := q3) (vx_runV (As := [.int p1]) (rest := []) S (kX11_needPart l g hst hc1) (cwV 1 S.2.2.2.2 gX11_at_X11_needPart rfl rfl rfl ynX11_needPart ⟨Nat.le_of_ble_eq_true rfl, Nat.le_of_ble_eq_true rfl⟩) (dpV hE hP hS (ci := 11) rfl (dat12 k0)) rfl rfl hl.1 rfl (lv_room (Nat.le_of_ble_eq_true rfl)) dX11_at_2 ⟨Nat.le_of_ble_eq_true rfl, Nat.le_of_ble_eq_true rfl⟩) hS (fun u4 q9 ce H locs eo hP hS h1 h2 h3 => ?_) (fun m2 H locs eo hP hS => ?_)
  · subst eo
    have h := d_s1 h
    obtain rfl := Option.some.inj h
    exact dxout rfl hnt hlk hP hS h1 h2 h3 (Nat.le_of_ble_eq_true rfl) (Nat.le_of_ble_eq_true rfl)
  · subst eo
    have h := d_s2 h
    refine lv_aload_n S.1 S.2.1 dX11_at_5 rfl (lv_at hl 0 rfl) ?_
    refine lv_iload_n S.1 S.2.1 dX11_at_6 rfl (lv_at hl 3 rfl) ?_
    obtain ⟨q7, hc5, h⟩ := d_b h
    refine dxrv (o := q7) (vx_runV (As := [.int p3]) (rest := []) S (kX11_needDot l g hst hc5) (cwV 1 S.2.2.2.2 gX11_at_X11_needDot rfl rfl rfl ynX11_needDot ⟨Nat.le_of_ble_eq_true rfl, Nat.le_of_ble_eq_true rfl⟩) (dpV hE hP hS (ci := 11) rfl (dat12 k0)) rfl rfl hl.1 rfl (lv_room (Nat.le_of_ble_eq_true rfl)) dX11_at_7 ⟨Nat.le_of_ble_eq_true rfl, Nat.le_of_ble_eq_true rfl⟩) hS (fun u8 q9 ce H locs eo hP hS h1 h2 h3 => ?_) (fun m6 H locs eo hP hS => ?_)
    · subst eo
      have h := d_s1 h
      obtain rfl := Option.some.inj h
      exact dxout rfl hnt hlk hP hS h1 h2 h3 (Nat.le_of_ble_eq_true rfl) (Nat.le_of_ble_eq_true rfl)
    · subst eo
      have h := d_s2 h
      refine lv_aload_n S.1 S.2.1 dX11_at_10 rfl (lv_at hl 0 rfl) ?_
      refine dgf11_2 S in11 hE hP k0 (S.2.2.2.2 (.fieldLink RX11 26 "DrillField" "show" "LDrillField$Show;") (List.mem_of_getElem? (i := 1) rfl)) dX11_at_11 ?_
      refine lv_iload_n S.1 S.2.1 dX11_at_14 rfl (lv_at hl 1 rfl) ?_
      obtain ⟨v10, hc9, h⟩ := d_b h
      obtain ⟨hk11, h⟩ := d_g h
      have hk11 := d_k hk11
      refine drr (va_runV (As := [.int p1]) (rest := []) S (kX8_numbered l g hc9) (cwV 1 S.2.2.2.2 gX11_at_X8_numbered rfl rfl rfl ynX8_numbered ⟨Nat.le_of_ble_eq_true rfl, Nat.le_of_ble_eq_true rfl⟩) (dpV hE hP hS (ci := 8) rfl (dat9 dk_47)) rfl rfl hl.1 rfl (lv_room (Nat.le_of_ble_eq_true rfl)) dX11_at_15 ⟨Nat.le_of_ble_eq_true rfl, Nat.le_of_ble_eq_true rfl⟩) hS (fun H locs hP hS => ?_)
      refine lv_astore (lv' := [(4, .ref (dad g v10)), (0, .ref (dad g p0)), (1, .int p1), (2, .int p2), (3, .int p3)]) S.1 S.2.1 dX11_at_18 hl (by decide) rfl (fun ls hl => ?_)
      refine lv_iload_n S.1 S.2.1 dX11_at_20 rfl (lv_at hl 3 rfl) ?_
      refine lv_iconst (v := 0) S.1 S.2.1 dX11_at_21 (by decide) ?_
      refine lv_aload S.1 S.2.1 dX11_at_22 (lv_at hl 0 rfl) ?_
      obtain ⟨v13, hc12, h⟩ := d_b h
      refine dri (va_runV (As := []) (rest := [.int 0, .int p2]) S (kX5_counts l g hc12) (cwV 0 S.2.2.2.2 gX11_at_X5_counts rfl rfl rfl ynX5_counts ⟨Nat.le_of_ble_eq_true rfl, Nat.le_of_ble_eq_true rfl⟩) (dpV hE hP hS (ci := 5) rfl (dat6 hk11)) rfl rfl hl.1 rfl (lv_room (Nat.le_of_ble_eq_true rfl)) dX11_at_24 ⟨Nat.le_of_ble_eq_true rfl, Nat.le_of_ble_eq_true rfl⟩) hS (fun H locs hP hS => ?_)
      obtain ⟨q16, hc14, h⟩ := d_b h
      refine dxrv (o := q16) (vx_runS (As := [.int p2, .int 0, .int v13]) (rest := []) S (kX11_needRange l g hst hc14) (va_cwS 3 S.2.2.2.2 gX11_at_X11_needRange rfl rfl rfl ynX11_needRange ⟨Nat.le_of_ble_eq_true rfl, Nat.le_of_ble_eq_true rfl⟩) (dpS hE hP hS) rfl rfl hl.1 rfl (lv_room (Nat.le_of_ble_eq_true rfl)) dX11_at_27 ⟨Nat.le_of_ble_eq_true rfl, Nat.le_of_ble_eq_true rfl⟩) hS (fun u17 q9 ce H locs eo hP hS h1 h2 h3 => ?_) (fun m15 H locs eo hP hS => ?_)
      · subst eo
        have h := d_s1 h
        obtain rfl := Option.some.inj h
        exact dxout rfl hnt hlk hP hS h1 h2 h3 (Nat.le_of_ble_eq_true rfl) (Nat.le_of_ble_eq_true rfl)
      · subst eo
        have h := d_s2 h
        refine lv_sipush (v := 2000) S.1 S.2.1 dX11_at_30 (by decide) ?_
        refine lv_aload S.1 S.2.1 dX11_at_33 (lv_at hl 0 rfl) ?_
        refine lv_iload_n S.1 S.2.1 dX11_at_35 rfl (lv_at hl 4 rfl) ?_
        refine lv_iload_n S.1 S.2.1 dX11_at_36 rfl (lv_at hl 3 rfl) ?_
        obtain ⟨v19, hc18, h⟩ := d_b h
        refine dri (va_runV (As := [.int p3, .int p2]) (rest := [.int 2000]) S (kX5_xOf l g hc18) (cwV 2 S.2.2.2.2 gX11_at_X5_xOf rfl rfl rfl ynX5_xOf ⟨Nat.le_of_ble_eq_true rfl, Nat.le_of_ble_eq_true rfl⟩) (dpV hE hP hS (ci := 5) rfl (dat6 hk11)) rfl rfl hl.1 rfl (lv_room (Nat.le_of_ble_eq_true rfl)) dX11_at_37 ⟨Nat.le_of_ble_eq_true rfl, Nat.le_of_ble_eq_true rfl⟩) hS (fun H locs hP hS => ?_)
        refine lv_imul S.1 S.2.1 dX11_at_40 ?_
        refine lv_aload S.1 S.2.1 dX11_at_41 (lv_at hl 0 rfl) ?_
        refine lv_iload_n S.1 S.2.1 dX11_at_43 rfl (lv_at hl 4 rfl) ?_
        refine lv_iload_n S.1 S.2.1 dX11_at_44 rfl (lv_at hl 3 rfl) ?_
        obtain ⟨v21, hc20, h⟩ := d_b h
        refine dri (va_runV (As := [.int p3, .int p2]) (rest := [.int (2000 * v19)]) S (kX5_yOf l g hc20) (cwV 2 S.2.2.2.2 gX11_at_X5_yOf rfl rfl rfl ynX5_yOf ⟨Nat.le_of_ble_eq_true rfl, Nat.le_of_ble_eq_true rfl⟩) (dpV hE hP hS (ci := 5) rfl (dat6 hk11)) rfl rfl hl.1 rfl (lv_room (Nat.le_of_ble_eq_true rfl)) dX11_at_45 ⟨Nat.le_of_ble_eq_true rfl, Nat.le_of_ble_eq_true rfl⟩) hS (fun H locs hP hS => ?_)
        refine lv_iadd S.1 S.2.1 dX11_at_48 ?_
        obtain rfl := Option.some.inj h
        exact dxti rfl S hr hlk hE hP hS rfl (Nat.le_of_ble_eq_true rfl) (Nat.le_of_ble_eq_true rfl) dX11_at_49
set_option maxRecDepth 20000 in
theorem ggX11_band_X11_needRange : GoodIn wsX11_band wsX11_needRange := goodIn_ca (goodIn_r _ [8, 9, 10, 11, 12, 7, 13] (by decide +kernel) (by decide +kernel)) (goodIn_sub (fun _ h => List.mem_cons_of_mem _ (List.mem_append_right _ h)) (by decide +kernel))
set_option maxRecDepth 20000 in
theorem gX11_band_X11_needRange : GoodIn wsX11_band (va_wsS RX11 65 yX11_needRange wsX11_needRange) := goodIn_app (goodIn_of _ (by decide +kernel)) ggX11_band_X11_needRange
set_option maxRecDepth 20000 in
theorem ggX11_band_X7_number : GoodIn wsX11_band wsX7_number := goodIn_r _ [18, 19, 42, 43, 44] (by decide +kernel) (by decide +kernel)
set_option maxRecDepth 20000 in
theorem gX11_band_X7_number : GoodIn wsX11_band (wsV RX11 69 RX7 yX7_number wsX7_number) := goodIn_app (goodIn_of _ (by decide +kernel)) ggX11_band_X7_number
set_option maxRecDepth 20000 in
theorem ggX11_band_X1_begin : GoodIn wsX11_band wsX1_begin := goodIn_r _ [24, 25, 26, 27, 28, 29, 30, 31, 32, 33, 45, 46, 47, 48, 49] (by decide +kernel) (by decide +kernel)
set_option maxRecDepth 20000 in
theorem gX11_band_X1_begin : GoodIn wsX11_band (wsV RX11 80 RX1 yX1_begin wsX1_begin) := goodIn_app (goodIn_of _ (by decide +kernel)) ggX11_band_X1_begin
theorem dX11_band_0 : decode cX11_band 0 = .ok (.iload_n 1, 1) := by decide +kernel
theorem dX11_band_1 : decode cX11_band 1 = .ok (.iconst 2, 1) := by decide +kernel
theorem dX11_band_2 : decode cX11_band 2 = .ok (.bipush 10, 2) := by decide +kernel
theorem dX11_band_4 : decode cX11_band 4 = .ok (.invokestatic 65, 3) := by decide +kernel
theorem dX11_band_7 : decode cX11_band 7 = .ok (.aload_n 0, 1) := by decide +kernel
theorem dX11_band_8 : decode cX11_band 8 = .ok (.getfield 19, 3) := by decide +kernel
theorem dX11_band_11 : decode cX11_band 11 = .ok (.invokevirtual 69, 3) := by decide +kernel
theorem dX11_band_14 : decode cX11_band 14 = .ok (.ifCond .le 13, 3) := by decide +kernel
theorem dX11_band_17 : decode cX11_band 17 = .ok (.new 73, 3) := by decide +kernel
theorem dX11_band_20 : decode cX11_band 20 = .ok (.dup, 1) := by decide +kernel
theorem dX11_band_21 : decode cX11_band 21 = .ok (.ldc 75, 2) := by decide +kernel
theorem dX11_band_23 : decode cX11_band 23 = .ok (.invokespecial 77, 3) := by decide +kernel
theorem dX11_band_26 : decode cX11_band 26 = .ok (.athrow, 1) := by decide +kernel
theorem dX11_band_27 : decode cX11_band 27 = .ok (.aload_n 0, 1) := by decide +kernel
theorem dX11_band_28 : decode cX11_band 28 = .ok (.getfield 10, 3) := by decide +kernel
theorem dX11_band_31 : decode cX11_band 31 = .ok (.iload_n 1, 1) := by decide +kernel
theorem dX11_band_32 : decode cX11_band 32 = .ok (.invokevirtual 80, 3) := by decide +kernel
theorem dX11_band_35 : decode cX11_band 35 = .ok (.return_, 1) := by decide +kernel
theorem twX11_band_17 : ∀ w ∈ (vx_atS RX11 77 (dEx 2) dNms).filter (fun w => !goodWord w), w ∈ [Cond.declares (Bundle.initS "java/lang/RuntimeException"), Cond.declares (Bundle.initS "java/lang/Exception"), Cond.declares (Bundle.initS Bundle.tN), Cond.castable (dEx 2) (dEx 2)] := by decide +kernel
theorem toX11_band_17 : ∀ w ∈ Cond.classLink RX11 73 (dEx 2) :: Cond.initialized (dEx 2) :: vx_atS RX11 77 (dEx 2) dNms, vx_ot w = true := by decide +kernel
def fX11_band (m : dM) (p0 : Nat) (p1 : Int32) : Option ((Nat × dM) ⊕ dM) := dg (dkg p0 12) ((fX11_needRange m p1 2 10).bind (fun q => dS q (fun x => some (.inl x)) (fun m2 => (fX7_number m2 6).bind (fun v6 => if v6 ≤ 0 then (fX1_begin m2 1 p1).bind (fun m8 => some (.inr m8)) else some (.inl (2, m2))))))
set_option maxHeartbeats 4000000 in
set_option maxRecDepth 100000 in
theorem kX11_band (l : Launch) (g : dG) (hst : l.stackTraces = false) {m : dM} {p0 : Nat} {p1 : Int32} {o : ((Nat × dM) ⊕ dM)} (h : fX11_band m p0 p1 = some o) : dXMet l g yX11_band wsX11_band 7 112 2 [.ref (dad g p0), .int p1] m o (dXV g o) := by
  refine dxof (cc := cX11_band) (maxL := 2) (ret := none) _ (by decide) rfl (Nat.le_of_ble_eq_true rfl) ?_
  intro p e s mth below meth c S hr hlk hnt hE H ls hP hS hl
  have S : CallFix p mth c cX11_band 2 s _ wsX11_band RX11 := S
  have hl : lv_has ls 2 [(0, .ref (dad g p0)), (1, .int p1)] := hl
  obtain ⟨locs, hlocs⟩ : ∃ z : List Loc, z = [] := ⟨_, rfl⟩
  rw [← hlocs] at hS ⊢
  have in11 : ∀ w ∈ wsX110, w ∈ wsX11_band := by decide +kernel
  unfold fX11_band at h
  obtain ⟨k0, h⟩ := d_g h
  have k0 := d_k k0
  refine lv_iload_n S.1 S.2.1 dX11_band_0 rfl (lv_at hl 1 rfl) ?_
  refine lv_iconst (v := 2) S.1 S.2.1 dX11_band_1 (by decide) ?_
  refine lv_bipush (v := 10) S.1 S.2.1 dX11_band_2 (by decide) ?_
  obtain ⟨q3, hc1, h⟩ := d_b h
  refine dxrv (o := q3) (vx_runS (As := [.int p1, .int 2, .int 10]) (rest := []) S (kX11_needRange l g hst hc1) (va_cwS 3 S.2.2.2.2 gX11_band_X11_needRange rfl rfl rfl ynX11_needRange ⟨Nat.le_of_ble_eq_true rfl, Nat.le_of_ble_eq_true rfl⟩) (dpS hE hP hS) rfl rfl hl.1 rfl (lv_room (Nat.le_of_ble_eq_true rfl)) dX11_band_4 ⟨Nat.le_of_ble_eq_true rfl, Nat.le_of_ble_eq_true rfl⟩) hS (fun u4 q9 ce H locs eo hP hS h1 h2 h3 => ?_) (fun m2 H locs eo hP hS => ?_)
  · subst eo
    have h := d_s1 h
    obtain rfl := Option.some.inj h
    exact dxout rfl hnt hlk hP hS h1 h2 h3 (Nat.le_of_ble_eq_true rfl) (Nat.le_of_ble_eq_true rfl)
  · subst eo
    have h := d_s2 h
    refine lv_aload_n S.1 S.2.1 dX11_band_7 rfl (lv_at hl 0 rfl) ?_
    refine dgf11_1 S in11 hE hP k0 (S.2.2.2.2 (.fieldLink RX11 19 "DrillField" "sets" "LDrillField$Sets;") (List.mem_of_getElem? (i := 3) rfl)) dX11_band_8 ?_
    obtain ⟨v6, hc5, h⟩ := d_b h
    refine dri (va_runV (As := []) (rest := []) S (kX7_number l g hc5) (cwV 0 S.2.2.2.2 gX11_band_X7_number rfl rfl rfl ynX7_number ⟨Nat.le_of_ble_eq_true rfl, Nat.le_of_ble_eq_true rfl⟩) (dpV hE hP hS (ci := 7) rfl (dat8 dk_6)) rfl rfl hl.1 rfl (lv_room (Nat.le_of_ble_eq_true rfl)) dX11_band_11 ⟨Nat.le_of_ble_eq_true rfl, Nat.le_of_ble_eq_true rfl⟩) hS (fun H locs hP hS => ?_)
    refine lv_if_le (tgt := 27) S.1 S.2.1 dX11_band_14 (by decide) (fun cq => ?_) (fun cq => ?_)
    · have h := d_t cq h
      refine lv_aload_n S.1 S.2.1 dX11_band_27 rfl (lv_at hl 0 rfl) ?_
      refine dgf11_0 S in11 hE hP k0 (S.2.2.2.2 (.fieldLink RX11 10 "DrillField" "dots" "LDrillField$Dots;") (List.mem_of_getElem? (i := 4) rfl)) dX11_band_28 ?_
      refine lv_iload_n S.1 S.2.1 dX11_band_31 rfl (lv_at hl 1 rfl) ?_
      obtain ⟨m8, hc7, h⟩ := d_b h
      refine drv (va_runV (As := [.int p1]) (rest := []) S (kX1_begin l g hc7) (cwV 1 S.2.2.2.2 gX11_band_X1_begin rfl rfl rfl ynX1_begin ⟨Nat.le_of_ble_eq_true rfl, Nat.le_of_ble_eq_true rfl⟩) (dpV hE hP hS (ci := 1) rfl (dat2 dk_1)) rfl rfl hl.1 rfl (lv_room (Nat.le_of_ble_eq_true rfl)) dX11_band_32 ⟨Nat.le_of_ble_eq_true rfl, Nat.le_of_ble_eq_true rfl⟩) hS (fun H locs hP hS => ?_)
      obtain rfl := Option.some.inj h
      exact dxtv rfl S hr hlk hE hP hS (Nat.le_of_ble_eq_true rfl) (Nat.le_of_ble_eq_true rfl) dX11_band_35
    · have h := d_f cq h
      obtain rfl := Option.some.inj h
      exact dx_throwS (k := 2) (text := "there are sets") rfl S hst hlk hnt hE hP hS (by decide) (by decide) hl.1 (S.2.2.2.2 (.classLink RX11 73 "java/lang/IllegalStateException") (List.mem_of_getElem? (i := 1) rfl)) (S.2.2.2.2 (.initialized "java/lang/IllegalStateException") (List.mem_of_getElem? (i := 2) rfl)) (by decide) (fun w hw => List.mem_cons_of_mem _ (List.mem_append_left _ (List.mem_append_right _ hw))) twX11_band_17 toX11_band_17 dX11_band_17 dX11_band_20 dX11_band_21 dX11_band_23 dX11_band_26 ⟨Nat.le_of_ble_eq_true rfl, Nat.le_of_ble_eq_true rfl, Nat.le_of_ble_eq_true rfl, Nat.le_of_ble_eq_true rfl⟩ (Nat.le_of_ble_eq_true rfl) (Nat.le_of_ble_eq_true rfl)
set_option maxRecDepth 20000 in
theorem ggX11_keepDraft_X1_number : GoodIn wsX11_keepDraft wsX1_number := goodIn_r _ [11, 12, 70, 71, 72, 73, 74] (by decide +kernel) (by decide +kernel)
set_option maxRecDepth 20000 in
theorem gX11_keepDraft_X1_number : GoodIn wsX11_keepDraft (wsV RX11 119 RX1 yX1_number wsX1_number) := goodIn_app (goodIn_of _ (by decide +kernel)) ggX11_keepDraft_X1_number
set_option maxRecDepth 20000 in
theorem ggX11_keepDraft_X7_isDraftOnField : GoodIn wsX11_keepDraft wsX7_isDraftOnField := goodIn_r _ [17, 18, 19, 20, 21, 22, 23, 24, 25, 26, 27, 28, 29, 30, 31, 32, 33, 34, 35, 36, 37, 75, 76, 77, 78, 79] (by decide +kernel) (by decide +kernel)
set_option maxRecDepth 20000 in
theorem gX11_keepDraft_X7_isDraftOnField : GoodIn wsX11_keepDraft (wsV RX11 274 RX7 yX7_isDraftOnField wsX7_isDraftOnField) := goodIn_app (goodIn_of _ (by decide +kernel)) ggX11_keepDraft_X7_isDraftOnField
set_option maxRecDepth 20000 in
theorem ggX11_keepDraft_X7_number : GoodIn wsX11_keepDraft wsX7_number := goodIn_r _ [41, 42, 75, 76, 77] (by decide +kernel) (by decide +kernel)
set_option maxRecDepth 20000 in
theorem gX11_keepDraft_X7_number : GoodIn wsX11_keepDraft (wsV RX11 69 RX7 yX7_number wsX7_number) := goodIn_app (goodIn_of _ (by decide +kernel)) ggX11_keepDraft_X7_number
set_option maxRecDepth 20000 in
theorem ggX11_keepDraft_X7_keepDraft : GoodIn wsX11_keepDraft wsX7_keepDraft := goodIn_r _ [46, 42, 18, 47, 48, 49, 16, 50, 51, 36, 26, 37, 52, 53, 54, 22, 55, 56, 20, 21, 23, 24, 25, 27, 57, 29, 30, 31, 32, 58, 59, 60, 61, 75, 76, 77, 78, 79] (by decide +kernel) (by decide +kernel)
set_option maxRecDepth 20000 in
theorem gX11_keepDraft_X7_keepDraft : GoodIn wsX11_keepDraft (wsV RX11 279 RX7 yX7_keepDraft wsX7_keepDraft) := goodIn_app (goodIn_of _ (by decide +kernel)) ggX11_keepDraft_X7_keepDraft
theorem dX11_keepDraft_0 : decode cX11_keepDraft 0 = .ok (.aload_n 0, 1) := by decide +kernel
theorem dX11_keepDraft_1 : decode cX11_keepDraft 1 = .ok (.getfield 19, 3) := by decide +kernel
theorem dX11_keepDraft_4 : decode cX11_keepDraft 4 = .ok (.aload_n 0, 1) := by decide +kernel
theorem dX11_keepDraft_5 : decode cX11_keepDraft 5 = .ok (.getfield 10, 3) := by decide +kernel
theorem dX11_keepDraft_8 : decode cX11_keepDraft 8 = .ok (.invokevirtual 119, 3) := by decide +kernel
theorem dX11_keepDraft_11 : decode cX11_keepDraft 11 = .ok (.invokevirtual 274, 3) := by decide +kernel
theorem dX11_keepDraft_14 : decode cX11_keepDraft 14 = .ok (.ifCond .ne 13, 3) := by decide +kernel
theorem dX11_keepDraft_17 : decode cX11_keepDraft 17 = .ok (.new 114, 3) := by decide +kernel
theorem dX11_keepDraft_20 : decode cX11_keepDraft 20 = .ok (.dup, 1) := by decide +kernel
theorem dX11_keepDraft_21 : decode cX11_keepDraft 21 = .ok (.ldc 116, 2) := by decide +kernel
theorem dX11_keepDraft_23 : decode cX11_keepDraft 23 = .ok (.invokespecial 118, 3) := by decide +kernel
theorem dX11_keepDraft_26 : decode cX11_keepDraft 26 = .ok (.athrow, 1) := by decide +kernel
theorem dX11_keepDraft_27 : decode cX11_keepDraft 27 = .ok (.aload_n 0, 1) := by decide +kernel
theorem dX11_keepDraft_28 : decode cX11_keepDraft 28 = .ok (.getfield 19, 3) := by decide +kernel
theorem dX11_keepDraft_31 : decode cX11_keepDraft 31 = .ok (.invokevirtual 69, 3) := by decide +kernel
theorem dX11_keepDraft_34 : decode cX11_keepDraft 34 = .ok (.bipush 12, 2) := by decide +kernel
theorem dX11_keepDraft_36 : decode cX11_keepDraft 36 = .ok (.if_icmp .lt 14, 3) := by decide +kernel
theorem dX11_keepDraft_39 : decode cX11_keepDraft 39 = .ok (.new 73, 3) := by decide +kernel
theorem dX11_keepDraft_42 : decode cX11_keepDraft 42 = .ok (.dup, 1) := by decide +kernel
theorem dX11_keepDraft_43 : decode cX11_keepDraft 43 = .ok (.ldc_w 277, 3) := by decide +kernel
theorem dX11_keepDraft_46 : decode cX11_keepDraft 46 = .ok (.invokespecial 77, 3) := by decide +kernel
theorem dX11_keepDraft_49 : decode cX11_keepDraft 49 = .ok (.athrow, 1) := by decide +kernel
theorem dX11_keepDraft_50 : decode cX11_keepDraft 50 = .ok (.aload_n 0, 1) := by decide +kernel
theorem dX11_keepDraft_51 : decode cX11_keepDraft 51 = .ok (.getfield 19, 3) := by decide +kernel
theorem dX11_keepDraft_54 : decode cX11_keepDraft 54 = .ok (.invokevirtual 279, 3) := by decide +kernel
theorem dX11_keepDraft_57 : decode cX11_keepDraft 57 = .ok (.ireturn, 1) := by decide +kernel
theorem twX11_keepDraft_39 : ∀ w ∈ (vx_atS RX11 77 (dEx 2) dNms).filter (fun w => !goodWord w), w ∈ [Cond.declares (Bundle.initS "java/lang/RuntimeException"), Cond.declares (Bundle.initS "java/lang/Exception"), Cond.declares (Bundle.initS Bundle.tN), Cond.castable (dEx 2) (dEx 2)] := by decide +kernel
theorem toX11_keepDraft_39 : ∀ w ∈ Cond.classLink RX11 73 (dEx 2) :: Cond.initialized (dEx 2) :: vx_atS RX11 77 (dEx 2) dNms, vx_ot w = true := by decide +kernel
theorem twX11_keepDraft_17 : ∀ w ∈ (vx_atS RX11 118 (dEx 1) dNms).filter (fun w => !goodWord w), w ∈ [Cond.declares (Bundle.initS "java/lang/RuntimeException"), Cond.declares (Bundle.initS "java/lang/Exception"), Cond.declares (Bundle.initS Bundle.tN), Cond.castable (dEx 1) (dEx 1)] := by decide +kernel
theorem toX11_keepDraft_17 : ∀ w ∈ Cond.classLink RX11 114 (dEx 1) :: Cond.initialized (dEx 1) :: vx_atS RX11 118 (dEx 1) dNms, vx_ot w = true := by decide +kernel
def fX11_keepDraft (m : dM) (p0 : Nat) : Option ((Nat × dM) ⊕ (Int32 × dM)) := dg (dkg p0 12) ((fX1_number m 1).bind (fun v2 => (fX7_isDraftOnField m 6 v2).bind (fun v4 => if v4 = 0 then some (.inl (1, m)) else (fX7_number m 6).bind (fun v6 => if v6 < 12 then (fX7_keepDraft m 6).bind (fun q => dP2 q (fun v9 m8 => some (.inr (v9, m8)))) else some (.inl (2, m))))))
set_option maxHeartbeats 4000000 in
set_option maxRecDepth 100000 in
theorem kX11_keepDraft (l : Launch) (g : dG) (hst : l.stackTraces = false) {m : dM} {p0 : Nat} {o : ((Nat × dM) ⊕ (Int32 × dM))} (h : fX11_keepDraft m p0 = some o) : dXMet l g yX11_keepDraft wsX11_keepDraft 6 90 1 [.ref (dad g p0)] m o (dXI g o) := by
  refine dxof (cc := cX11_keepDraft) (maxL := 1) (ret := (some .int)) _ (by decide) rfl (Nat.le_of_ble_eq_true rfl) ?_
  intro p e s mth below meth c S hr hlk hnt hE H ls hP hS hl
  have S : CallFix p mth c cX11_keepDraft 1 s _ wsX11_keepDraft RX11 := S
  have hl : lv_has ls 1 [(0, .ref (dad g p0))] := hl
  obtain ⟨locs, hlocs⟩ : ∃ z : List Loc, z = [] := ⟨_, rfl⟩
  rw [← hlocs] at hS ⊢
  have in11 : ∀ w ∈ wsX110, w ∈ wsX11_keepDraft := by decide +kernel
  unfold fX11_keepDraft at h
  obtain ⟨k0, h⟩ := d_g h
  have k0 := d_k k0
  refine lv_aload_n S.1 S.2.1 dX11_keepDraft_0 rfl (lv_at hl 0 rfl) ?_
  refine dgf11_1 S in11 hE hP k0 (S.2.2.2.2 (.fieldLink RX11 19 "DrillField" "sets" "LDrillField$Sets;") (List.mem_of_getElem? (i := 5) rfl)) dX11_keepDraft_1 ?_
  refine lv_aload_n S.1 S.2.1 dX11_keepDraft_4 rfl (lv_at hl 0 rfl) ?_
  refine dgf11_0 S in11 hE hP k0 (S.2.2.2.2 (.fieldLink RX11 10 "DrillField" "dots" "LDrillField$Dots;") (List.mem_of_getElem? (i := 6) rfl)) dX11_keepDraft_5 ?_
  obtain ⟨v2, hc1, h⟩ := d_b h
  refine dri (va_runV (As := []) (rest := [.ref (dad g 6)]) S (kX1_number l g hc1) (cwV 0 S.2.2.2.2 gX11_keepDraft_X1_number rfl rfl rfl ynX1_number ⟨Nat.le_of_ble_eq_true rfl, Nat.le_of_ble_eq_true rfl⟩) (dpV hE hP hS (ci := 1) rfl (dat2 dk_1)) rfl rfl hl.1 rfl (lv_room (Nat.le_of_ble_eq_true rfl)) dX11_keepDraft_8 ⟨Nat.le_of_ble_eq_true rfl, Nat.le_of_ble_eq_true rfl⟩) hS (fun H locs hP hS => ?_)
  obtain ⟨v4, hc3, h⟩ := d_b h
  refine dri (va_runV (As := [.int v2]) (rest := []) S (kX7_isDraftOnField l g hc3) (cwV 1 S.2.2.2.2 gX11_keepDraft_X7_isDraftOnField rfl rfl rfl ynX7_isDraftOnField ⟨Nat.le_of_ble_eq_true rfl, Nat.le_of_ble_eq_true rfl⟩) (dpV hE hP hS (ci := 7) rfl (dat8 dk_6)) rfl rfl hl.1 rfl (lv_room (Nat.le_of_ble_eq_true rfl)) dX11_keepDraft_11 ⟨Nat.le_of_ble_eq_true rfl, Nat.le_of_ble_eq_true rfl⟩) hS (fun H locs hP hS => ?_)
  refine lv_if_ne (tgt := 27) S.1 S.2.1 dX11_keepDraft_14 (by decide) (fun cq => ?_) (fun cq => ?_)
  · have h := d_f cq h
    refine lv_aload_n S.1 S.2.1 dX11_keepDraft_27 rfl (lv_at hl 0 rfl) ?_
    refine dgf11_1 S in11 hE hP k0 (S.2.2.2.2 (.fieldLink RX11 19 "DrillField" "sets" "LDrillField$Sets;") (List.mem_of_getElem? (i := 5) rfl)) dX11_keepDraft_28 ?_
    obtain ⟨v6, hc5, h⟩ := d_b h
    refine dri (va_runV (As := []) (rest := []) S (kX7_number l g hc5) (cwV 0 S.2.2.2.2 gX11_keepDraft_X7_number rfl rfl rfl ynX7_number ⟨Nat.le_of_ble_eq_true rfl, Nat.le_of_ble_eq_true rfl⟩) (dpV hE hP hS (ci := 7) rfl (dat8 dk_6)) rfl rfl hl.1 rfl (lv_room (Nat.le_of_ble_eq_true rfl)) dX11_keepDraft_31 ⟨Nat.le_of_ble_eq_true rfl, Nat.le_of_ble_eq_true rfl⟩) hS (fun H locs hP hS => ?_)
    refine lv_bipush (v := 12) S.1 S.2.1 dX11_keepDraft_34 (by decide) ?_
    refine lv_icmp_lt (tgt := 50) S.1 S.2.1 dX11_keepDraft_36 (by decide) (fun cq => ?_) (fun cq => ?_)
    · have h := d_t cq h
      refine lv_aload_n S.1 S.2.1 dX11_keepDraft_50 rfl (lv_at hl 0 rfl) ?_
      refine dgf11_1 S in11 hE hP k0 (S.2.2.2.2 (.fieldLink RX11 19 "DrillField" "sets" "LDrillField$Sets;") (List.mem_of_getElem? (i := 5) rfl)) dX11_keepDraft_51 ?_
      obtain ⟨⟨v9, m8⟩, hc7, h⟩ := d_b h
      have h := d_p2 h
      refine dri (va_runV (As := []) (rest := []) S (kX7_keepDraft l g hc7) (cwV 0 S.2.2.2.2 gX11_keepDraft_X7_keepDraft rfl rfl rfl ynX7_keepDraft ⟨Nat.le_of_ble_eq_true rfl, Nat.le_of_ble_eq_true rfl⟩) (dpV hE hP hS (ci := 7) rfl (dat8 dk_6)) rfl rfl hl.1 rfl (lv_room (Nat.le_of_ble_eq_true rfl)) dX11_keepDraft_54 ⟨Nat.le_of_ble_eq_true rfl, Nat.le_of_ble_eq_true rfl⟩) hS (fun H locs hP hS => ?_)
      obtain rfl := Option.some.inj h
      exact dxti rfl S hr hlk hE hP hS rfl (Nat.le_of_ble_eq_true rfl) (Nat.le_of_ble_eq_true rfl) dX11_keepDraft_57
    · have h := d_f cq h
      obtain rfl := Option.some.inj h
      exact dx_throwSW (k := 2) (text := "there are 12 sets") rfl S hst hlk hnt hE hP hS (by decide) (by decide) hl.1 (S.2.2.2.2 (.classLink RX11 73 "java/lang/IllegalStateException") (List.mem_of_getElem? (i := 3) rfl)) (S.2.2.2.2 (.initialized "java/lang/IllegalStateException") (List.mem_of_getElem? (i := 4) rfl)) (by decide) (fun w hw => List.mem_cons_of_mem _ (List.mem_append_right _ hw)) twX11_keepDraft_39 toX11_keepDraft_39 dX11_keepDraft_39 dX11_keepDraft_42 dX11_keepDraft_43 dX11_keepDraft_46 dX11_keepDraft_49 ⟨Nat.le_of_ble_eq_true rfl, Nat.le_of_ble_eq_true rfl, Nat.le_of_ble_eq_true rfl, Nat.le_of_ble_eq_true rfl⟩ (Nat.le_of_ble_eq_true rfl) (Nat.le_of_ble_eq_true rfl)
  · have h := d_t cq h
    obtain rfl := Option.some.inj h
    exact dx_throwS (k := 1) (text := "a place is not on the field") rfl S hst hlk hnt hE hP hS (by decide) (by decide) hl.1 (S.2.2.2.2 (.classLink RX11 114 "java/lang/IllegalArgumentException") (List.mem_of_getElem? (i := 1) rfl)) (S.2.2.2.2 (.initialized "java/lang/IllegalArgumentException") (List.mem_of_getElem? (i := 2) rfl)) (by decide) (fun w hw => List.mem_cons_of_mem _ (List.mem_append_left _ (List.mem_append_right _ hw))) twX11_keepDraft_17 toX11_keepDraft_17 dX11_keepDraft_17 dX11_keepDraft_20 dX11_keepDraft_21 dX11_keepDraft_23 dX11_keepDraft_26 ⟨Nat.le_of_ble_eq_true rfl, Nat.le_of_ble_eq_true rfl, Nat.le_of_ble_eq_true rfl, Nat.le_of_ble_eq_true rfl⟩ (Nat.le_of_ble_eq_true rfl) (Nat.le_of_ble_eq_true rfl)
set_option maxRecDepth 20000 in
theorem ggX11_block_X11_needRange : GoodIn wsX11_block wsX11_needRange := goodIn_ca (goodIn_r _ [6, 7, 8, 9, 10, 5, 11] (by decide +kernel) (by decide +kernel)) (goodIn_sub (fun _ h => List.mem_cons_of_mem _ (List.mem_append_left _ (List.mem_append_right _ h))) (by decide +kernel))
set_option maxRecDepth 20000 in
theorem gX11_block_X11_needRange : GoodIn wsX11_block (va_wsS RX11 65 yX11_needRange wsX11_needRange) := goodIn_app (goodIn_of _ (by decide +kernel)) ggX11_block_X11_needRange
set_option maxRecDepth 20000 in
theorem ggX11_block_X1_number : GoodIn wsX11_block wsX1_number := goodIn_r _ [16, 17, 93, 94, 95, 96, 97] (by decide +kernel) (by decide +kernel)
set_option maxRecDepth 20000 in
theorem gX11_block_X1_number : GoodIn wsX11_block (wsV RX11 119 RX1 yX1_number wsX1_number) := goodIn_app (goodIn_of _ (by decide +kernel)) ggX11_block_X1_number
set_option maxRecDepth 20000 in
theorem ggX11_block_X7_draftBlock : GoodIn wsX11_block wsX7_draftBlock := goodIn_r _ [22, 23, 24, 5, 25, 26, 27, 28, 29, 30, 31, 32, 33, 34, 35, 36, 37, 38, 39, 40, 41, 42, 43, 98, 99, 100, 101, 102] (by decide +kernel) (by decide +kernel)
set_option maxRecDepth 20000 in
theorem gX11_block_X7_draftBlock : GoodIn wsX11_block (wsV RX11 127 RX7 yX7_draftBlock wsX7_draftBlock) := goodIn_app (goodIn_of _ (by decide +kernel)) ggX11_block_X7_draftBlock
set_option maxRecDepth 20000 in
theorem ggX11_block_X11_keepDraft : GoodIn wsX11_block wsX11_keepDraft := goodIn_ca (goodIn_ca (goodIn_r _ [47, 7, 8, 48, 49, 1, 2, 12, 13, 14, 15, 16, 17, 50, 51, 52, 21, 53, 23, 54, 55, 56, 38, 57, 40, 42, 5, 43, 58, 59, 60, 61, 41, 62, 63, 9, 10, 11, 64, 65, 66, 67, 68, 69, 70, 71, 72, 73, 74, 75, 76, 77, 78, 79, 80, 81, 82, 83, 84, 36, 37, 39, 85, 86, 87, 88, 89, 90, 91, 92, 93, 94, 95, 96, 97, 98, 99, 100, 101, 102] (by decide +kernel) (by decide +kernel)) (goodIn_sub (fun _ h => List.mem_cons_of_mem _ (List.mem_append_left _ (List.mem_append_right _ h))) (by decide +kernel))) (goodIn_sub (fun _ h => List.mem_cons_of_mem _ (List.mem_append_right _ h)) (by decide +kernel))
set_option maxRecDepth 20000 in
theorem gX11_block_X11_keepDraft : GoodIn wsX11_block (wsV RX11 124 RX11 yX11_keepDraft wsX11_keepDraft) := goodIn_app (goodIn_of _ (by decide +kernel)) ggX11_block_X11_keepDraft
theorem dX11_block_0 : decode cX11_block 0 = .ok (.iload_n 3, 1) := by decide +kernel
theorem dX11_block_1 : decode cX11_block 1 = .ok (.iconst 1, 1) := by decide +kernel
theorem dX11_block_2 : decode cX11_block 2 = .ok (.bipush 10, 2) := by decide +kernel
theorem dX11_block_4 : decode cX11_block 4 = .ok (.invokestatic 65, 3) := by decide +kernel
theorem dX11_block_7 : decode cX11_block 7 = .ok (.iload 4, 2) := by decide +kernel
theorem dX11_block_9 : decode cX11_block 9 = .ok (.iconst 1, 1) := by decide +kernel
theorem dX11_block_10 : decode cX11_block 10 = .ok (.sipush 400, 3) := by decide +kernel
theorem dX11_block_13 : decode cX11_block 13 = .ok (.invokestatic 65, 3) := by decide +kernel
theorem dX11_block_16 : decode cX11_block 16 = .ok (.aload_n 0, 1) := by decide +kernel
theorem dX11_block_17 : decode cX11_block 17 = .ok (.getfield 19, 3) := by decide +kernel
theorem dX11_block_20 : decode cX11_block 20 = .ok (.iload_n 1, 1) := by decide +kernel
theorem dX11_block_21 : decode cX11_block 21 = .ok (.iload_n 2, 1) := by decide +kernel
theorem dX11_block_22 : decode cX11_block 22 = .ok (.iload_n 3, 1) := by decide +kernel
theorem dX11_block_23 : decode cX11_block 23 = .ok (.iload 4, 2) := by decide +kernel
theorem dX11_block_25 : decode cX11_block 25 = .ok (.aload_n 0, 1) := by decide +kernel
theorem dX11_block_26 : decode cX11_block 26 = .ok (.getfield 10, 3) := by decide +kernel
theorem dX11_block_29 : decode cX11_block 29 = .ok (.invokevirtual 119, 3) := by decide +kernel
theorem dX11_block_32 : decode cX11_block 32 = .ok (.invokevirtual 127, 3) := by decide +kernel
theorem dX11_block_35 : decode cX11_block 35 = .ok (.aload_n 0, 1) := by decide +kernel
theorem dX11_block_36 : decode cX11_block 36 = .ok (.invokevirtual 124, 3) := by decide +kernel
theorem dX11_block_39 : decode cX11_block 39 = .ok (.ireturn, 1) := by decide +kernel
def fX11_block (m : dM) (p0 : Nat) (p1 : Int32) (p2 : Int32) (p3 : Int32) (p4 : Int32) : Option ((Nat × dM) ⊕ (Int32 × dM)) := dg (dkg p0 12) ((fX11_needRange m p3 1 10).bind (fun q => dS q (fun x => some (.inl x)) (fun m2 => (fX11_needRange m2 p4 1 400).bind (fun q => dS q (fun x => some (.inl x)) (fun m6 => (fX1_number m6 1).bind (fun v10 => (fX7_draftBlock m6 6 p1 p2 p3 p4 v10).bind (fun m12 => (fX11_keepDraft m12 p0).bind (fun q => dS q (fun x => some (.inl x)) (fun q => dP2 q (fun v17 m14 => some (.inr (v17, m14))))))))))))
set_option maxHeartbeats 4000000 in
set_option maxRecDepth 100000 in
theorem kX11_block (l : Launch) (g : dG) (hst : l.stackTraces = false) {m : dM} {p0 : Nat} {p1 : Int32} {p2 : Int32} {p3 : Int32} {p4 : Int32} {o : ((Nat × dM) ⊕ (Int32 × dM))} (h : fX11_block m p0 p1 p2 p3 p4 = some o) : dXMet l g yX11_block wsX11_block 7 112 3 [.ref (dad g p0), .int p1, .int p2, .int p3, .int p4] m o (dXI g o) := by
  refine dxof (cc := cX11_block) (maxL := 5) (ret := (some .int)) _ (by decide) rfl (Nat.le_of_ble_eq_true rfl) ?_
  intro p e s mth below meth c S hr hlk hnt hE H ls hP hS hl
  have S : CallFix p mth c cX11_block 5 s _ wsX11_block RX11 := S
  have hl : lv_has ls 5 [(0, .ref (dad g p0)), (1, .int p1), (2, .int p2), (3, .int p3), (4, .int p4)] := hl
  obtain ⟨locs, hlocs⟩ : ∃ z : List Loc, z = [] := ⟨_, rfl⟩
  rw [← hlocs] at hS ⊢
  have in11 : ∀ w ∈ wsX110, w ∈ wsX11_block := by decide +kernel
  unfold fX11_block at h
  obtain ⟨k0, h⟩ := d_g h
  have k0 := d_k k0
  refine lv_iload_n S.1 S.2.1 dX11_block_0 rfl (lv_at hl 3 rfl) ?_
  refine lv_iconst (v := 1) S.1 S.2.1 dX11_block_1 (by decide) ?_
  refine lv_bipush (v := 10) S.1 S.2.1 dX11_block_2 (by decide) ?_
  obtain ⟨q3, hc1, h⟩ := d_b h
  refine dxrv (o := q3) (vx_runS (As := [.int p3, .int 1, .int 10]) (rest := []) S (kX11_needRange l g hst hc1) (va_cwS 3 S.2.2.2.2 gX11_block_X11_needRange rfl rfl rfl ynX11_needRange ⟨Nat.le_of_ble_eq_true rfl, Nat.le_of_ble_eq_true rfl⟩) (dpS hE hP hS) rfl rfl hl.1 rfl (lv_room (Nat.le_of_ble_eq_true rfl)) dX11_block_4 ⟨Nat.le_of_ble_eq_true rfl, Nat.le_of_ble_eq_true rfl⟩) hS (fun u4 q9 ce H locs eo hP hS h1 h2 h3 => ?_) (fun m2 H locs eo hP hS => ?_)
  · subst eo
    have h := d_s1 h
    obtain rfl := Option.some.inj h
    exact dxout rfl hnt hlk hP hS h1 h2 h3 (Nat.le_of_ble_eq_true rfl) (Nat.le_of_ble_eq_true rfl)
  · subst eo
    have h := d_s2 h
    refine lv_iload S.1 S.2.1 dX11_block_7 (lv_at hl 4 rfl) ?_
    refine lv_iconst (v := 1) S.1 S.2.1 dX11_block_9 (by decide) ?_
    refine lv_sipush (v := 400) S.1 S.2.1 dX11_block_10 (by decide) ?_
    obtain ⟨q7, hc5, h⟩ := d_b h
    refine dxrv (o := q7) (vx_runS (As := [.int p4, .int 1, .int 400]) (rest := []) S (kX11_needRange l g hst hc5) (va_cwS 3 S.2.2.2.2 gX11_block_X11_needRange rfl rfl rfl ynX11_needRange ⟨Nat.le_of_ble_eq_true rfl, Nat.le_of_ble_eq_true rfl⟩) (dpS hE hP hS) rfl rfl hl.1 rfl (lv_room (Nat.le_of_ble_eq_true rfl)) dX11_block_13 ⟨Nat.le_of_ble_eq_true rfl, Nat.le_of_ble_eq_true rfl⟩) hS (fun u8 q9 ce H locs eo hP hS h1 h2 h3 => ?_) (fun m6 H locs eo hP hS => ?_)
    · subst eo
      have h := d_s1 h
      obtain rfl := Option.some.inj h
      exact dxout rfl hnt hlk hP hS h1 h2 h3 (Nat.le_of_ble_eq_true rfl) (Nat.le_of_ble_eq_true rfl)
    · subst eo
      have h := d_s2 h
      refine lv_aload_n S.1 S.2.1 dX11_block_16 rfl (lv_at hl 0 rfl) ?_
      refine dgf11_1 S in11 hE hP k0 (S.2.2.2.2 (.fieldLink RX11 19 "DrillField" "sets" "LDrillField$Sets;") (List.mem_of_getElem? (i := 1) rfl)) dX11_block_17 ?_
      refine lv_iload_n S.1 S.2.1 dX11_block_20 rfl (lv_at hl 1 rfl) ?_
      refine lv_iload_n S.1 S.2.1 dX11_block_21 rfl (lv_at hl 2 rfl) ?_
      refine lv_iload_n S.1 S.2.1 dX11_block_22 rfl (lv_at hl 3 rfl) ?_
      refine lv_iload S.1 S.2.1 dX11_block_23 (lv_at hl 4 rfl) ?_
      refine lv_aload_n S.1 S.2.1 dX11_block_25 rfl (lv_at hl 0 rfl) ?_
      refine dgf11_0 S in11 hE hP k0 (S.2.2.2.2 (.fieldLink RX11 10 "DrillField" "dots" "LDrillField$Dots;") (List.mem_of_getElem? (i := 2) rfl)) dX11_block_26 ?_
      obtain ⟨v10, hc9, h⟩ := d_b h
      refine dri (va_runV (As := []) (rest := [.int p4, .int p3, .int p2, .int p1, .ref (dad g 6)]) S (kX1_number l g hc9) (cwV 0 S.2.2.2.2 gX11_block_X1_number rfl rfl rfl ynX1_number ⟨Nat.le_of_ble_eq_true rfl, Nat.le_of_ble_eq_true rfl⟩) (dpV hE hP hS (ci := 1) rfl (dat2 dk_1)) rfl rfl hl.1 rfl (lv_room (Nat.le_of_ble_eq_true rfl)) dX11_block_29 ⟨Nat.le_of_ble_eq_true rfl, Nat.le_of_ble_eq_true rfl⟩) hS (fun H locs hP hS => ?_)
      obtain ⟨m12, hc11, h⟩ := d_b h
      refine drv (va_runV (As := [.int p1, .int p2, .int p3, .int p4, .int v10]) (rest := []) S (kX7_draftBlock l g hc11) (cwV 5 S.2.2.2.2 gX11_block_X7_draftBlock rfl rfl rfl ynX7_draftBlock ⟨Nat.le_of_ble_eq_true rfl, Nat.le_of_ble_eq_true rfl⟩) (dpV hE hP hS (ci := 7) rfl (dat8 dk_6)) rfl rfl hl.1 rfl (lv_room (Nat.le_of_ble_eq_true rfl)) dX11_block_32 ⟨Nat.le_of_ble_eq_true rfl, Nat.le_of_ble_eq_true rfl⟩) hS (fun H locs hP hS => ?_)
      refine lv_aload_n S.1 S.2.1 dX11_block_35 rfl (lv_at hl 0 rfl) ?_
      obtain ⟨q15, hc13, h⟩ := d_b h
      refine dxri (o := q15) (vx_runV (As := []) (rest := []) S (kX11_keepDraft l g hst hc13) (cwV 0 S.2.2.2.2 gX11_block_X11_keepDraft rfl rfl rfl ynX11_keepDraft ⟨Nat.le_of_ble_eq_true rfl, Nat.le_of_ble_eq_true rfl⟩) (dpV hE hP hS (ci := 11) rfl (dat12 k0)) rfl rfl hl.1 rfl (lv_room (Nat.le_of_ble_eq_true rfl)) dX11_block_36 ⟨Nat.le_of_ble_eq_true rfl, Nat.le_of_ble_eq_true rfl⟩) hS (fun u16 q9 ce H locs eo hP hS h1 h2 h3 => ?_) (fun v17 m14 H locs eo hP hS => ?_)
      · subst eo
        have h := d_s1 h
        obtain rfl := Option.some.inj h
        exact dxout rfl hnt hlk hP hS h1 h2 h3 (Nat.le_of_ble_eq_true rfl) (Nat.le_of_ble_eq_true rfl)
      · subst eo
        have h := d_s2 h
        have h := d_p2 h
        obtain rfl := Option.some.inj h
        exact dxti rfl S hr hlk hE hP hS rfl (Nat.le_of_ble_eq_true rfl) (Nat.le_of_ble_eq_true rfl) dX11_block_39
set_option maxRecDepth 20000 in
theorem ggX11_caught_X11_needPart : GoodIn wsX11_caught wsX11_needPart := goodIn_ca (goodIn_r _ [16, 3, 17, 18, 19, 20, 21, 22, 23, 24, 15, 25, 26, 27, 28, 29, 30, 94, 95, 96, 97, 98, 99, 100, 101, 102, 103, 104, 105] (by decide +kernel) (by decide +kernel)) (goodIn_sub (fun _ h => List.mem_cons_of_mem _ (List.mem_append_left _ (List.mem_append_right _ h))) (by decide +kernel))
set_option maxRecDepth 20000 in
theorem gX11_caught_X11_needPart : GoodIn wsX11_caught (wsV RX11 154 RX11 yX11_needPart wsX11_needPart) := goodIn_app (goodIn_of _ (by decide +kernel)) ggX11_caught_X11_needPart
set_option maxRecDepth 20000 in
theorem ggX11_caught_X11_needDot : GoodIn wsX11_caught wsX11_needDot := goodIn_ca (goodIn_r _ [34, 4, 35, 36, 37, 38, 39, 40, 23, 24, 15, 25, 26, 27, 28, 29, 30, 94, 95, 96, 97, 98, 99, 100, 101, 106, 107, 108, 109, 110] (by decide +kernel) (by decide +kernel)) (goodIn_sub (fun _ h => List.mem_cons_of_mem _ (List.mem_append_left _ (List.mem_append_right _ h))) (by decide +kernel))
set_option maxRecDepth 20000 in
theorem gX11_caught_X11_needDot : GoodIn wsX11_caught (wsV RX11 84 RX11 yX11_needDot wsX11_needDot) := goodIn_app (goodIn_of _ (by decide +kernel)) ggX11_caught_X11_needDot
set_option maxRecDepth 20000 in
theorem ggX11_caught_X8_numbered : GoodIn wsX11_caught wsX8_numbered := goodIn_r _ [44, 45, 46, 29, 15, 30, 102, 103, 104, 105] (by decide +kernel) (by decide +kernel)
set_option maxRecDepth 20000 in
theorem gX11_caught_X8_numbered : GoodIn wsX11_caught (wsV RX11 140 RX8 yX8_numbered wsX8_numbered) := goodIn_app (goodIn_of _ (by decide +kernel)) ggX11_caught_X8_numbered
set_option maxRecDepth 20000 in
theorem ggX11_caught_X5_counts : GoodIn wsX11_caught wsX5_counts := goodIn_r _ [51, 52, 111, 112, 113, 114, 115, 116, 117] (by decide +kernel) (by decide +kernel)
set_option maxRecDepth 20000 in
theorem gX11_caught_X5_counts : GoodIn wsX11_caught (wsV RX11 169 RX5 yX5_counts wsX5_counts) := goodIn_app (goodIn_of _ (by decide +kernel)) ggX11_caught_X5_counts
set_option maxRecDepth 20000 in
theorem ggX11_caught_X11_needRange : GoodIn wsX11_caught wsX11_needRange := goodIn_ca (goodIn_r _ [55, 56, 57, 28, 29, 15, 30] (by decide +kernel) (by decide +kernel)) (goodIn_sub (fun _ h => List.mem_cons_of_mem _ (List.mem_append_right _ h)) (by decide +kernel))
set_option maxRecDepth 20000 in
theorem gX11_caught_X11_needRange : GoodIn wsX11_caught (va_wsS RX11 65 yX11_needRange wsX11_needRange) := goodIn_app (goodIn_of _ (by decide +kernel)) ggX11_caught_X11_needRange
set_option maxRecDepth 20000 in
theorem ggX11_caught_X1_marches : GoodIn wsX11_caught wsX1_marches := goodIn_r _ [61, 62, 63, 64, 65, 15, 66, 106, 107, 108, 109, 110] (by decide +kernel) (by decide +kernel)
set_option maxRecDepth 20000 in
theorem gX11_caught_X1_marches : GoodIn wsX11_caught (wsV RX11 99 RX1 yX1_marches wsX1_marches) := goodIn_app (goodIn_of _ (by decide +kernel)) ggX11_caught_X1_marches
set_option maxRecDepth 20000 in
theorem ggX11_caught_X5_xOf : GoodIn wsX11_caught wsX5_xOf := goodIn_r _ [70, 71, 72, 52, 73, 74, 75, 76, 77, 78, 65, 15, 66, 79, 80, 81, 82, 83, 84, 111, 112, 113, 114, 115, 116, 117, 118, 119] (by decide +kernel) (by decide +kernel)
set_option maxRecDepth 20000 in
theorem gX11_caught_X5_xOf : GoodIn wsX11_caught (wsV RX11 172 RX5 yX5_xOf wsX5_xOf) := goodIn_app (goodIn_of _ (by decide +kernel)) ggX11_caught_X5_xOf
set_option maxRecDepth 20000 in
theorem ggX11_caught_X5_yOf : GoodIn wsX11_caught wsX5_yOf := goodIn_r _ [88, 71, 72, 52, 89, 90, 91, 76, 92, 93, 65, 15, 66, 79, 80, 81, 82, 83, 84, 111, 112, 113, 114, 115, 116, 117, 118, 119] (by decide +kernel) (by decide +kernel)
set_option maxRecDepth 20000 in
theorem gX11_caught_X5_yOf : GoodIn wsX11_caught (wsV RX11 176 RX5 yX5_yOf wsX5_yOf) := goodIn_app (goodIn_of _ (by decide +kernel)) ggX11_caught_X5_yOf
theorem dX11_caught_0 : decode cX11_caught 0 = .ok (.aload_n 0, 1) := by decide +kernel
theorem dX11_caught_1 : decode cX11_caught 1 = .ok (.iload_n 1, 1) := by decide +kernel
theorem dX11_caught_2 : decode cX11_caught 2 = .ok (.invokevirtual 154, 3) := by decide +kernel
theorem dX11_caught_5 : decode cX11_caught 5 = .ok (.aload_n 0, 1) := by decide +kernel
theorem dX11_caught_6 : decode cX11_caught 6 = .ok (.iload_n 3, 1) := by decide +kernel
theorem dX11_caught_7 : decode cX11_caught 7 = .ok (.invokevirtual 84, 3) := by decide +kernel
theorem dX11_caught_10 : decode cX11_caught 10 = .ok (.aload_n 0, 1) := by decide +kernel
theorem dX11_caught_11 : decode cX11_caught 11 = .ok (.getfield 26, 3) := by decide +kernel
theorem dX11_caught_14 : decode cX11_caught 14 = .ok (.iload_n 1, 1) := by decide +kernel
theorem dX11_caught_15 : decode cX11_caught 15 = .ok (.invokevirtual 140, 3) := by decide +kernel
theorem dX11_caught_18 : decode cX11_caught 18 = .ok (.astore 6, 2) := by decide +kernel
theorem dX11_caught_20 : decode cX11_caught 20 = .ok (.iload_n 2, 1) := by decide +kernel
theorem dX11_caught_21 : decode cX11_caught 21 = .ok (.iconst 0, 1) := by decide +kernel
theorem dX11_caught_22 : decode cX11_caught 22 = .ok (.aload 6, 2) := by decide +kernel
theorem dX11_caught_24 : decode cX11_caught 24 = .ok (.invokevirtual 169, 3) := by decide +kernel
theorem dX11_caught_27 : decode cX11_caught 27 = .ok (.invokestatic 65, 3) := by decide +kernel
theorem dX11_caught_30 : decode cX11_caught 30 = .ok (.iload 4, 2) := by decide +kernel
theorem dX11_caught_32 : decode cX11_caught 32 = .ok (.iconst 1, 1) := by decide +kernel
theorem dX11_caught_33 : decode cX11_caught 33 = .ok (.bipush 9, 2) := by decide +kernel
theorem dX11_caught_35 : decode cX11_caught 35 = .ok (.invokestatic 65, 3) := by decide +kernel
theorem dX11_caught_38 : decode cX11_caught 38 = .ok (.iload 5, 2) := by decide +kernel
theorem dX11_caught_40 : decode cX11_caught 40 = .ok (.bipush (-20), 2) := by decide +kernel
theorem dX11_caught_42 : decode cX11_caught 42 = .ok (.bipush 20, 2) := by decide +kernel
theorem dX11_caught_44 : decode cX11_caught 44 = .ok (.invokestatic 65, 3) := by decide +kernel
theorem dX11_caught_47 : decode cX11_caught 47 = .ok (.aload_n 0, 1) := by decide +kernel
theorem dX11_caught_48 : decode cX11_caught 48 = .ok (.getfield 10, 3) := by decide +kernel
theorem dX11_caught_51 : decode cX11_caught 51 = .ok (.iload_n 3, 1) := by decide +kernel
theorem dX11_caught_52 : decode cX11_caught 52 = .ok (.invokevirtual 99, 3) := by decide +kernel
theorem dX11_caught_55 : decode cX11_caught 55 = .ok (.ifCond .ne 13, 3) := by decide +kernel
theorem dX11_caught_58 : decode cX11_caught 58 = .ok (.new 73, 3) := by decide +kernel
theorem dX11_caught_61 : decode cX11_caught 61 = .ok (.dup, 1) := by decide +kernel
theorem dX11_caught_62 : decode cX11_caught 62 = .ok (.ldc 207, 2) := by decide +kernel
theorem dX11_caught_64 : decode cX11_caught 64 = .ok (.invokespecial 77, 3) := by decide +kernel
theorem dX11_caught_67 : decode cX11_caught 67 = .ok (.athrow, 1) := by decide +kernel
theorem dX11_caught_68 : decode cX11_caught 68 = .ok (.iload_n 2, 1) := by decide +kernel
theorem dX11_caught_69 : decode cX11_caught 69 = .ok (.iload 4, 2) := by decide +kernel
theorem dX11_caught_71 : decode cX11_caught 71 = .ok (.iadd, 1) := by decide +kernel
theorem dX11_caught_72 : decode cX11_caught 72 = .ok (.aload 6, 2) := by decide +kernel
theorem dX11_caught_74 : decode cX11_caught 74 = .ok (.invokevirtual 169, 3) := by decide +kernel
theorem dX11_caught_77 : decode cX11_caught 77 = .ok (.invokestatic 209, 3) := by decide +kernel
theorem dX11_caught_80 : decode cX11_caught 80 = .ok (.istore 7, 2) := by decide +kernel
theorem dX11_caught_82 : decode cX11_caught 82 = .ok (.aload 6, 2) := by decide +kernel
theorem dX11_caught_84 : decode cX11_caught 84 = .ok (.iload_n 3, 1) := by decide +kernel
theorem dX11_caught_85 : decode cX11_caught 85 = .ok (.iload_n 2, 1) := by decide +kernel
theorem dX11_caught_86 : decode cX11_caught 86 = .ok (.invokevirtual 172, 3) := by decide +kernel
theorem dX11_caught_89 : decode cX11_caught 89 = .ok (.iload 5, 2) := by decide +kernel
theorem dX11_caught_91 : decode cX11_caught 91 = .ok (.iload 4, 2) := by decide +kernel
theorem dX11_caught_93 : decode cX11_caught 93 = .ok (.imul, 1) := by decide +kernel
theorem dX11_caught_94 : decode cX11_caught 94 = .ok (.iadd, 1) := by decide +kernel
theorem dX11_caught_95 : decode cX11_caught 95 = .ok (.aload 6, 2) := by decide +kernel
theorem dX11_caught_97 : decode cX11_caught 97 = .ok (.iload_n 3, 1) := by decide +kernel
theorem dX11_caught_98 : decode cX11_caught 98 = .ok (.iload 7, 2) := by decide +kernel
theorem dX11_caught_100 : decode cX11_caught 100 = .ok (.invokevirtual 172, 3) := by decide +kernel
theorem dX11_caught_103 : decode cX11_caught 103 = .ok (.isub, 1) := by decide +kernel
theorem dX11_caught_104 : decode cX11_caught 104 = .ok (.istore 8, 2) := by decide +kernel
theorem dX11_caught_106 : decode cX11_caught 106 = .ok (.aload 6, 2) := by decide +kernel
theorem dX11_caught_108 : decode cX11_caught 108 = .ok (.iload_n 3, 1) := by decide +kernel
theorem dX11_caught_109 : decode cX11_caught 109 = .ok (.iload_n 2, 1) := by decide +kernel
theorem dX11_caught_110 : decode cX11_caught 110 = .ok (.invokevirtual 176, 3) := by decide +kernel
theorem dX11_caught_113 : decode cX11_caught 113 = .ok (.aload 6, 2) := by decide +kernel
theorem dX11_caught_115 : decode cX11_caught 115 = .ok (.iload_n 3, 1) := by decide +kernel
theorem dX11_caught_116 : decode cX11_caught 116 = .ok (.iload 7, 2) := by decide +kernel
theorem dX11_caught_118 : decode cX11_caught 118 = .ok (.invokevirtual 176, 3) := by decide +kernel
theorem dX11_caught_121 : decode cX11_caught 121 = .ok (.isub, 1) := by decide +kernel
theorem dX11_caught_122 : decode cX11_caught 122 = .ok (.istore 9, 2) := by decide +kernel
theorem dX11_caught_124 : decode cX11_caught 124 = .ok (.iload 8, 2) := by decide +kernel
theorem dX11_caught_126 : decode cX11_caught 126 = .ok (.invokestatic 214, 3) := by decide +kernel
theorem dX11_caught_129 : decode cX11_caught 129 = .ok (.bipush 10, 2) := by decide +kernel
theorem dX11_caught_131 : decode cX11_caught 131 = .ok (.if_icmp .gt 17, 3) := by decide +kernel
theorem dX11_caught_134 : decode cX11_caught 134 = .ok (.iload 9, 2) := by decide +kernel
theorem dX11_caught_136 : decode cX11_caught 136 = .ok (.invokestatic 214, 3) := by decide +kernel
theorem dX11_caught_139 : decode cX11_caught 139 = .ok (.bipush 10, 2) := by decide +kernel
theorem dX11_caught_141 : decode cX11_caught 141 = .ok (.if_icmp .gt 7, 3) := by decide +kernel
theorem dX11_caught_144 : decode cX11_caught 144 = .ok (.iconst 1, 1) := by decide +kernel
theorem dX11_caught_145 : decode cX11_caught 145 = .ok (.goto 4, 3) := by decide +kernel
theorem dX11_caught_148 : decode cX11_caught 148 = .ok (.iconst 0, 1) := by decide +kernel
theorem dX11_caught_149 : decode cX11_caught 149 = .ok (.ireturn, 1) := by decide +kernel
theorem twX11_caught_58 : ∀ w ∈ (vx_atS RX11 77 (dEx 2) dNms).filter (fun w => !goodWord w), w ∈ [Cond.declares (Bundle.initS "java/lang/RuntimeException"), Cond.declares (Bundle.initS "java/lang/Exception"), Cond.declares (Bundle.initS Bundle.tN), Cond.castable (dEx 2) (dEx 2)] := by decide +kernel
theorem toX11_caught_58 : ∀ w ∈ Cond.classLink RX11 73 (dEx 2) :: Cond.initialized (dEx 2) :: vx_atS RX11 77 (dEx 2) dNms, vx_ot w = true := by decide +kernel
def fX11_caught (m : dM) (p0 : Nat) (p1 : Int32) (p2 : Int32) (p3 : Int32) (p4 : Int32) (p5 : Int32) : Option ((Nat × dM) ⊕ (Int32 × dM)) := dg (dkg p0 12) ((fX11_needPart m p0 p1).bind (fun q => dS q (fun x => some (.inl x)) (fun m2 => (fX11_needDot m2 p0 p3).bind (fun q => dS q (fun x => some (.inl x)) (fun m6 => (fX8_numbered m6 47 p1).bind (fun v10 => dg (dkg v10 6) ((fX5_counts m6 v10).bind (fun v13 => (fX11_needRange m6 p2 0 v13).bind (fun q => dS q (fun x => some (.inl x)) (fun m15 => (fX11_needRange m15 p4 1 9).bind (fun q => dS q (fun x => some (.inl x)) (fun m19 => (fX11_needRange m19 p5 (-20) 20).bind (fun q => dS q (fun x => some (.inl x)) (fun m23 => (fX1_marches m23 1 p3).bind (fun v27 => if v27 = 0 then some (.inl (2, m23)) else (fX5_counts m23 v10).bind (fun v29 => dlet (if v29 < (p2 + p4) then v29 else (p2 + p4) : Int32) (fun v30 => (fX5_xOf m23 v10 p3 p2).bind (fun v32 => (fX5_xOf m23 v10 p3 v30).bind (fun v34 => dlet ((v32 + (p5 * p4)) - v34 : Int32) (fun v35 => (fX5_yOf m23 v10 p3 p2).bind (fun v37 => (fX5_yOf m23 v10 p3 v30).bind (fun v39 => dlet (v37 - v39 : Int32) (fun v40 => if 10 < (if 0 ≤ v35 then v35 else 0 - v35) then some (.inr (0, m23)) else if 10 < (if 0 ≤ v40 then v40 else 0 - v40) then some (.inr (0, m23)) else some (.inr (1, m23)))))))))))))))))))))))))
set_option maxHeartbeats 4000000 in
set_option maxRecDepth 100000 in
theorem kX11_caught (l : Launch) (g : dG) (hst : l.stackTraces = false) {m : dM} {p0 : Nat} {p1 : Int32} {p2 : Int32} {p3 : Int32} {p4 : Int32} {p5 : Int32} {o : ((Nat × dM) ⊕ (Int32 × dM))} (h : fX11_caught m p0 p1 p2 p3 p4 p5 = some o) : dXMet l g yX11_caught wsX11_caught 8 132 6 [.ref (dad g p0), .int p1, .int p2, .int p3, .int p4, .int p5] m o (dXI g o) := by
  refine dxof (cc := cX11_caught) (maxL := 10) (ret := (some .boolean)) _ (by decide) rfl (Nat.le_of_ble_eq_true rfl) ?_
  intro p e s mth below meth c S hr hlk hnt hE H ls hP hS hl
  have S : CallFix p mth c cX11_caught 10 s _ wsX11_caught RX11 := S
  have hl : lv_has ls 10 [(0, .ref (dad g p0)), (1, .int p1), (2, .int p2), (3, .int p3), (4, .int p4), (5, .int p5)] := hl
  obtain ⟨locs, hlocs⟩ : ∃ z : List Loc, z = [] := ⟨_, rfl⟩
  rw [← hlocs] at hS ⊢
  have in11 : ∀ w ∈ wsX110, w ∈ wsX11_caught := by decide +kernel
  unfold fX11_caught at h
  obtain ⟨k0, h⟩ := d_g h
  have k0 := d_k k0
  refine lv_aload_n S.1 S.2.1 dX11_caught_0 rfl (lv_at hl 0 rfl) ?_
  refine lv_iload_n S.1 S.2.1 dX11_caught_1 rfl (lv_at hl 1 rfl) ?_
  obtain ⟨q3, hc1, h⟩ := d_b h
  refine dxrv (o := q3) (vx_runV (As := [.int p1]) (rest := []) S (kX11_needPart l g hst hc1) (cwV 1 S.2.2.2.2 gX11_caught_X11_needPart rfl rfl rfl ynX11_needPart ⟨Nat.le_of_ble_eq_true rfl, Nat.le_of_ble_eq_true rfl⟩) (dpV hE hP hS (ci := 11) rfl (dat12 k0)) rfl rfl hl.1 rfl (lv_room (Nat.le_of_ble_eq_true rfl)) dX11_caught_2 ⟨Nat.le_of_ble_eq_true rfl, Nat.le_of_ble_eq_true rfl⟩) hS (fun u4 q9 ce H locs eo hP hS h1 h2 h3 => ?_) (fun m2 H locs eo hP hS => ?_)
  · subst eo
    have h := d_s1 h
    obtain rfl := Option.some.inj h
    exact dxout rfl hnt hlk hP hS h1 h2 h3 (Nat.le_of_ble_eq_true rfl) (Nat.le_of_ble_eq_true rfl)
  · subst eo
    have h := d_s2 h
    refine lv_aload_n S.1 S.2.1 dX11_caught_5 rfl (lv_at hl 0 rfl) ?_
    refine lv_iload_n S.1 S.2.1 dX11_caught_6 rfl (lv_at hl 3 rfl) ?_
    obtain ⟨q7, hc5, h⟩ := d_b h
    refine dxrv (o := q7) (vx_runV (As := [.int p3]) (rest := []) S (kX11_needDot l g hst hc5) (cwV 1 S.2.2.2.2 gX11_caught_X11_needDot rfl rfl rfl ynX11_needDot ⟨Nat.le_of_ble_eq_true rfl, Nat.le_of_ble_eq_true rfl⟩) (dpV hE hP hS (ci := 11) rfl (dat12 k0)) rfl rfl hl.1 rfl (lv_room (Nat.le_of_ble_eq_true rfl)) dX11_caught_7 ⟨Nat.le_of_ble_eq_true rfl, Nat.le_of_ble_eq_true rfl⟩) hS (fun u8 q9 ce H locs eo hP hS h1 h2 h3 => ?_) (fun m6 H locs eo hP hS => ?_)
    · subst eo
      have h := d_s1 h
      obtain rfl := Option.some.inj h
      exact dxout rfl hnt hlk hP hS h1 h2 h3 (Nat.le_of_ble_eq_true rfl) (Nat.le_of_ble_eq_true rfl)
    · subst eo
      have h := d_s2 h
      refine lv_aload_n S.1 S.2.1 dX11_caught_10 rfl (lv_at hl 0 rfl) ?_
      refine dgf11_2 S in11 hE hP k0 (S.2.2.2.2 (.fieldLink RX11 26 "DrillField" "show" "LDrillField$Show;") (List.mem_of_getElem? (i := 3) rfl)) dX11_caught_11 ?_
      refine lv_iload_n S.1 S.2.1 dX11_caught_14 rfl (lv_at hl 1 rfl) ?_
      obtain ⟨v10, hc9, h⟩ := d_b h
      obtain ⟨hk11, h⟩ := d_g h
      have hk11 := d_k hk11
      refine drr (va_runV (As := [.int p1]) (rest := []) S (kX8_numbered l g hc9) (cwV 1 S.2.2.2.2 gX11_caught_X8_numbered rfl rfl rfl ynX8_numbered ⟨Nat.le_of_ble_eq_true rfl, Nat.le_of_ble_eq_true rfl⟩) (dpV hE hP hS (ci := 8) rfl (dat9 dk_47)) rfl rfl hl.1 rfl (lv_room (Nat.le_of_ble_eq_true rfl)) dX11_caught_15 ⟨Nat.le_of_ble_eq_true rfl, Nat.le_of_ble_eq_true rfl⟩) hS (fun H locs hP hS => ?_)
      refine lv_astore (lv' := [(6, .ref (dad g v10)), (0, .ref (dad g p0)), (1, .int p1), (2, .int p2), (3, .int p3), (4, .int p4), (5, .int p5)]) S.1 S.2.1 dX11_caught_18 hl (by decide) rfl (fun ls hl => ?_)
      refine lv_iload_n S.1 S.2.1 dX11_caught_20 rfl (lv_at hl 3 rfl) ?_
      refine lv_iconst (v := 0) S.1 S.2.1 dX11_caught_21 (by decide) ?_
      refine lv_aload S.1 S.2.1 dX11_caught_22 (lv_at hl 0 rfl) ?_
      obtain ⟨v13, hc12, h⟩ := d_b h
      refine dri (va_runV (As := []) (rest := [.int 0, .int p2]) S (kX5_counts l g hc12) (cwV 0 S.2.2.2.2 gX11_caught_X5_counts rfl rfl rfl ynX5_counts ⟨Nat.le_of_ble_eq_true rfl, Nat.le_of_ble_eq_true rfl⟩) (dpV hE hP hS (ci := 5) rfl (dat6 hk11)) rfl rfl hl.1 rfl (lv_room (Nat.le_of_ble_eq_true rfl)) dX11_caught_24 ⟨Nat.le_of_ble_eq_true rfl, Nat.le_of_ble_eq_true rfl⟩) hS (fun H locs hP hS => ?_)
      obtain ⟨q16, hc14, h⟩ := d_b h
      refine dxrv (o := q16) (vx_runS (As := [.int p2, .int 0, .int v13]) (rest := []) S (kX11_needRange l g hst hc14) (va_cwS 3 S.2.2.2.2 gX11_caught_X11_needRange rfl rfl rfl ynX11_needRange ⟨Nat.le_of_ble_eq_true rfl, Nat.le_of_ble_eq_true rfl⟩) (dpS hE hP hS) rfl rfl hl.1 rfl (lv_room (Nat.le_of_ble_eq_true rfl)) dX11_caught_27 ⟨Nat.le_of_ble_eq_true rfl, Nat.le_of_ble_eq_true rfl⟩) hS (fun u17 q9 ce H locs eo hP hS h1 h2 h3 => ?_) (fun m15 H locs eo hP hS => ?_)
      · subst eo
        have h := d_s1 h
        obtain rfl := Option.some.inj h
        exact dxout rfl hnt hlk hP hS h1 h2 h3 (Nat.le_of_ble_eq_true rfl) (Nat.le_of_ble_eq_true rfl)
      · subst eo
        have h := d_s2 h
        refine lv_iload S.1 S.2.1 dX11_caught_30 (lv_at hl 5 rfl) ?_
        refine lv_iconst (v := 1) S.1 S.2.1 dX11_caught_32 (by decide) ?_
        refine lv_bipush (v := 9) S.1 S.2.1 dX11_caught_33 (by decide) ?_
        obtain ⟨q20, hc18, h⟩ := d_b h
        refine dxrv (o := q20) (vx_runS (As := [.int p4, .int 1, .int 9]) (rest := []) S (kX11_needRange l g hst hc18) (va_cwS 3 S.2.2.2.2 gX11_caught_X11_needRange rfl rfl rfl ynX11_needRange ⟨Nat.le_of_ble_eq_true rfl, Nat.le_of_ble_eq_true rfl⟩) (dpS hE hP hS) rfl rfl hl.1 rfl (lv_room (Nat.le_of_ble_eq_true rfl)) dX11_caught_35 ⟨Nat.le_of_ble_eq_true rfl, Nat.le_of_ble_eq_true rfl⟩) hS (fun u21 q9 ce H locs eo hP hS h1 h2 h3 => ?_) (fun m19 H locs eo hP hS => ?_)
        · subst eo
          have h := d_s1 h
          obtain rfl := Option.some.inj h
          exact dxout rfl hnt hlk hP hS h1 h2 h3 (Nat.le_of_ble_eq_true rfl) (Nat.le_of_ble_eq_true rfl)
        · subst eo
          have h := d_s2 h
          refine lv_iload S.1 S.2.1 dX11_caught_38 (lv_at hl 6 rfl) ?_
          refine lv_bipush (v := (-20)) S.1 S.2.1 dX11_caught_40 (by decide) ?_
          refine lv_bipush (v := 20) S.1 S.2.1 dX11_caught_42 (by decide) ?_
          obtain ⟨q24, hc22, h⟩ := d_b h
          refine dxrv (o := q24) (vx_runS (As := [.int p5, .int (-20), .int 20]) (rest := []) S (kX11_needRange l g hst hc22) (va_cwS 3 S.2.2.2.2 gX11_caught_X11_needRange rfl rfl rfl ynX11_needRange ⟨Nat.le_of_ble_eq_true rfl, Nat.le_of_ble_eq_true rfl⟩) (dpS hE hP hS) rfl rfl hl.1 rfl (lv_room (Nat.le_of_ble_eq_true rfl)) dX11_caught_44 ⟨Nat.le_of_ble_eq_true rfl, Nat.le_of_ble_eq_true rfl⟩) hS (fun u25 q9 ce H locs eo hP hS h1 h2 h3 => ?_) (fun m23 H locs eo hP hS => ?_)
          · subst eo
            have h := d_s1 h
            obtain rfl := Option.some.inj h
            exact dxout rfl hnt hlk hP hS h1 h2 h3 (Nat.le_of_ble_eq_true rfl) (Nat.le_of_ble_eq_true rfl)
          · subst eo
            have h := d_s2 h
            refine lv_aload_n S.1 S.2.1 dX11_caught_47 rfl (lv_at hl 1 rfl) ?_
            refine dgf11_0 S in11 hE hP k0 (S.2.2.2.2 (.fieldLink RX11 10 "DrillField" "dots" "LDrillField$Dots;") (List.mem_of_getElem? (i := 4) rfl)) dX11_caught_48 ?_
            refine lv_iload_n S.1 S.2.1 dX11_caught_51 rfl (lv_at hl 4 rfl) ?_
            obtain ⟨v27, hc26, h⟩ := d_b h
            refine dri (va_runV (As := [.int p3]) (rest := []) S (kX1_marches l g hc26) (cwV 1 S.2.2.2.2 gX11_caught_X1_marches rfl rfl rfl ynX1_marches ⟨Nat.le_of_ble_eq_true rfl, Nat.le_of_ble_eq_true rfl⟩) (dpV hE hP hS (ci := 1) rfl (dat2 dk_1)) rfl rfl hl.1 rfl (lv_room (Nat.le_of_ble_eq_true rfl)) dX11_caught_52 ⟨Nat.le_of_ble_eq_true rfl, Nat.le_of_ble_eq_true rfl⟩) hS (fun H locs hP hS => ?_)
            refine lv_if_ne (tgt := 68) S.1 S.2.1 dX11_caught_55 (by decide) (fun cq => ?_) (fun cq => ?_)
            · have h := d_f cq h
              refine lv_iload_n S.1 S.2.1 dX11_caught_68 rfl (lv_at hl 3 rfl) ?_
              refine lv_iload S.1 S.2.1 dX11_caught_69 (lv_at hl 5 rfl) ?_
              refine lv_iadd S.1 S.2.1 dX11_caught_71 ?_
              refine lv_aload S.1 S.2.1 dX11_caught_72 (lv_at hl 0 rfl) ?_
              obtain ⟨v29, hc28, h⟩ := d_b h
              refine dri (va_runV (As := []) (rest := [.int (p2 + p4)]) S (kX5_counts l g hc28) (cwV 0 S.2.2.2.2 gX11_caught_X5_counts rfl rfl rfl ynX5_counts ⟨Nat.le_of_ble_eq_true rfl, Nat.le_of_ble_eq_true rfl⟩) (dpV hE hP hS (ci := 5) rfl (dat6 hk11)) rfl rfl hl.1 rfl (lv_room (Nat.le_of_ble_eq_true rfl)) dX11_caught_74 ⟨Nat.le_of_ble_eq_true rfl, Nat.le_of_ble_eq_true rfl⟩) hS (fun H locs hP hS => ?_)
              refine va_mmin S.1 S.2.1 (S.2.2.1.trans hl.1.symm) S.2.2.2.1 (S.2.2.2.2 (.methodLink RX11 209 Lib.Math.min.name) (List.mem_of_getElem? (i := 5) rfl)) (S.2.2.2.2 (.static Lib.Math.min.name) (List.mem_of_getElem? (i := 6) rfl)) (S.2.2.2.2 (.initialized "java/lang/Math") (List.mem_of_getElem? (i := 7) rfl)) (S.2.2.2.2 (.code Lib.Math.min.name Lib.Math.min.code 2 (some .int)) (List.mem_of_getElem? (i := 8) rfl)) (Nat.le_of_ble_eq_true rfl) (Nat.le_of_ble_eq_true rfl) (Nat.le_of_ble_eq_true rfl) (Nat.le_of_ble_eq_true rfl) dX11_caught_77 ?_
              refine lv_topi (fun v30 ev30 => ?_)
              have h := d_let ev30 h
              refine lv_istore (lv' := [(7, .int v30), (6, .ref (dad g v10)), (0, .ref (dad g p0)), (1, .int p1), (2, .int p2), (3, .int p3), (4, .int p4), (5, .int p5)]) S.1 S.2.1 dX11_caught_80 hl (by decide) rfl (fun ls hl => ?_)
              refine lv_aload S.1 S.2.1 dX11_caught_82 (lv_at hl 1 rfl) ?_
              refine lv_iload_n S.1 S.2.1 dX11_caught_84 rfl (lv_at hl 5 rfl) ?_
              refine lv_iload_n S.1 S.2.1 dX11_caught_85 rfl (lv_at hl 4 rfl) ?_
              obtain ⟨v32, hc31, h⟩ := d_b h
              refine dri (va_runV (As := [.int p3, .int p2]) (rest := []) S (kX5_xOf l g hc31) (cwV 2 S.2.2.2.2 gX11_caught_X5_xOf rfl rfl rfl ynX5_xOf ⟨Nat.le_of_ble_eq_true rfl, Nat.le_of_ble_eq_true rfl⟩) (dpV hE hP hS (ci := 5) rfl (dat6 hk11)) rfl rfl hl.1 rfl (lv_room (Nat.le_of_ble_eq_true rfl)) dX11_caught_86 ⟨Nat.le_of_ble_eq_true rfl, Nat.le_of_ble_eq_true rfl⟩) hS (fun H locs hP hS => ?_)
              refine lv_iload S.1 S.2.1 dX11_caught_89 (lv_at hl 7 rfl) ?_
              refine lv_iload S.1 S.2.1 dX11_caught_91 (lv_at hl 6 rfl) ?_
              refine lv_imul S.1 S.2.1 dX11_caught_93 ?_
              refine lv_iadd S.1 S.2.1 dX11_caught_94 ?_
              refine lv_aload S.1 S.2.1 dX11_caught_95 (lv_at hl 1 rfl) ?_
              refine lv_iload_n S.1 S.2.1 dX11_caught_97 rfl (lv_at hl 5 rfl) ?_
              refine lv_iload S.1 S.2.1 dX11_caught_98 (lv_at hl 0 rfl) ?_
              obtain ⟨v34, hc33, h⟩ := d_b h
              refine dri (va_runV (As := [.int p3, .int v30]) (rest := [.int (v32 + (p5 * p4))]) S (kX5_xOf l g hc33) (cwV 2 S.2.2.2.2 gX11_caught_X5_xOf rfl rfl rfl ynX5_xOf ⟨Nat.le_of_ble_eq_true rfl, Nat.le_of_ble_eq_true rfl⟩) (dpV hE hP hS (ci := 5) rfl (dat6 hk11)) rfl rfl hl.1 rfl (lv_room (Nat.le_of_ble_eq_true rfl)) dX11_caught_100 ⟨Nat.le_of_ble_eq_true rfl, Nat.le_of_ble_eq_true rfl⟩) hS (fun H locs hP hS => ?_)
              refine lv_isub S.1 S.2.1 dX11_caught_103 ?_
              refine lv_topi (fun v35 ev35 => ?_)
              have h := d_let ev35 h
              refine lv_istore (lv' := [(8, .int v35), (7, .int v30), (6, .ref (dad g v10)), (0, .ref (dad g p0)), (1, .int p1), (2, .int p2), (3, .int p3), (4, .int p4), (5, .int p5)]) S.1 S.2.1 dX11_caught_104 hl (by decide) rfl (fun ls hl => ?_)
              refine lv_aload S.1 S.2.1 dX11_caught_106 (lv_at hl 2 rfl) ?_
              refine lv_iload_n S.1 S.2.1 dX11_caught_108 rfl (lv_at hl 6 rfl) ?_
              refine lv_iload_n S.1 S.2.1 dX11_caught_109 rfl (lv_at hl 5 rfl) ?_
              obtain ⟨v37, hc36, h⟩ := d_b h
              refine dri (va_runV (As := [.int p3, .int p2]) (rest := []) S (kX5_yOf l g hc36) (cwV 2 S.2.2.2.2 gX11_caught_X5_yOf rfl rfl rfl ynX5_yOf ⟨Nat.le_of_ble_eq_true rfl, Nat.le_of_ble_eq_true rfl⟩) (dpV hE hP hS (ci := 5) rfl (dat6 hk11)) rfl rfl hl.1 rfl (lv_room (Nat.le_of_ble_eq_true rfl)) dX11_caught_110 ⟨Nat.le_of_ble_eq_true rfl, Nat.le_of_ble_eq_true rfl⟩) hS (fun H locs hP hS => ?_)
              refine lv_aload S.1 S.2.1 dX11_caught_113 (lv_at hl 2 rfl) ?_
              refine lv_iload_n S.1 S.2.1 dX11_caught_115 rfl (lv_at hl 6 rfl) ?_
              refine lv_iload S.1 S.2.1 dX11_caught_116 (lv_at hl 1 rfl) ?_
              obtain ⟨v39, hc38, h⟩ := d_b h
              refine dri (va_runV (As := [.int p3, .int v30]) (rest := [.int v37]) S (kX5_yOf l g hc38) (cwV 2 S.2.2.2.2 gX11_caught_X5_yOf rfl rfl rfl ynX5_yOf ⟨Nat.le_of_ble_eq_true rfl, Nat.le_of_ble_eq_true rfl⟩) (dpV hE hP hS (ci := 5) rfl (dat6 hk11)) rfl rfl hl.1 rfl (lv_room (Nat.le_of_ble_eq_true rfl)) dX11_caught_118 ⟨Nat.le_of_ble_eq_true rfl, Nat.le_of_ble_eq_true rfl⟩) hS (fun H locs hP hS => ?_)
              refine lv_isub S.1 S.2.1 dX11_caught_121 ?_
              refine lv_topi (fun v40 ev40 => ?_)
              have h := d_let ev40 h
              refine lv_istore (lv' := [(9, .int v40), (8, .int v35), (7, .int v30), (6, .ref (dad g v10)), (0, .ref (dad g p0)), (1, .int p1), (2, .int p2), (3, .int p3), (4, .int p4), (5, .int p5)]) S.1 S.2.1 dX11_caught_122 hl (by decide) rfl (fun ls hl => ?_)
              refine lv_iload S.1 S.2.1 dX11_caught_124 (lv_at hl 1 rfl) ?_
              refine va_mabs S.1 S.2.1 (S.2.2.1.trans hl.1.symm) S.2.2.2.1 (S.2.2.2.2 (.methodLink RX11 214 Lib.Math.abs.name) (List.mem_of_getElem? (i := 9) rfl)) (S.2.2.2.2 (.static Lib.Math.abs.name) (List.mem_of_getElem? (i := 10) rfl)) (S.2.2.2.2 (.initialized "java/lang/Math") (List.mem_of_getElem? (i := 7) rfl)) (S.2.2.2.2 (.code Lib.Math.abs.name Lib.Math.abs.code 1 (some .int)) (List.mem_of_getElem? (i := 11) rfl)) (Nat.le_of_ble_eq_true rfl) (Nat.le_of_ble_eq_true rfl) (Nat.le_of_ble_eq_true rfl) (Nat.le_of_ble_eq_true rfl) dX11_caught_126 ?_
              refine lv_bipush (v := 10) S.1 S.2.1 dX11_caught_129 (by decide) ?_
              refine lv_icmp_gt (tgt := 148) S.1 S.2.1 dX11_caught_131 (by decide) (fun cq => ?_) (fun cq => ?_)
              · have h := d_t cq h
                refine lv_iconst (v := 0) S.1 S.2.1 dX11_caught_148 (by decide) ?_
                obtain rfl := Option.some.inj h
                exact dxti rfl S hr hlk hE hP hS rfl (Nat.le_of_ble_eq_true rfl) (Nat.le_of_ble_eq_true rfl) dX11_caught_149
              · have h := d_f cq h
                refine lv_iload S.1 S.2.1 dX11_caught_134 (lv_at hl 0 rfl) ?_
                refine va_mabs S.1 S.2.1 (S.2.2.1.trans hl.1.symm) S.2.2.2.1 (S.2.2.2.2 (.methodLink RX11 214 Lib.Math.abs.name) (List.mem_of_getElem? (i := 9) rfl)) (S.2.2.2.2 (.static Lib.Math.abs.name) (List.mem_of_getElem? (i := 10) rfl)) (S.2.2.2.2 (.initialized "java/lang/Math") (List.mem_of_getElem? (i := 7) rfl)) (S.2.2.2.2 (.code Lib.Math.abs.name Lib.Math.abs.code 1 (some .int)) (List.mem_of_getElem? (i := 11) rfl)) (Nat.le_of_ble_eq_true rfl) (Nat.le_of_ble_eq_true rfl) (Nat.le_of_ble_eq_true rfl) (Nat.le_of_ble_eq_true rfl) dX11_caught_136 ?_
                refine lv_bipush (v := 10) S.1 S.2.1 dX11_caught_139 (by decide) ?_
                refine lv_icmp_gt (tgt := 148) S.1 S.2.1 dX11_caught_141 (by decide) (fun cq => ?_) (fun cq => ?_)
                · have h := d_t cq h
                  refine lv_iconst (v := 0) S.1 S.2.1 dX11_caught_148 (by decide) ?_
                  obtain rfl := Option.some.inj h
                  exact dxti rfl S hr hlk hE hP hS rfl (Nat.le_of_ble_eq_true rfl) (Nat.le_of_ble_eq_true rfl) dX11_caught_149
                · have h := d_f cq h
                  refine lv_iconst (v := 1) S.1 S.2.1 dX11_caught_144 (by decide) ?_
                  refine lv_goto (tgt := 149) S.1 S.2.1 dX11_caught_145 (by decide) ?_
                  obtain rfl := Option.some.inj h
                  exact dxti rfl S hr hlk hE hP hS rfl (Nat.le_of_ble_eq_true rfl) (Nat.le_of_ble_eq_true rfl) dX11_caught_149
            · have h := d_t cq h
              obtain rfl := Option.some.inj h
              exact dx_throwS (k := 2) (text := "the dot does not march") rfl S hst hlk hnt hE hP hS (by decide) (by decide) hl.1 (S.2.2.2.2 (.classLink RX11 73 "java/lang/IllegalStateException") (List.mem_of_getElem? (i := 1) rfl)) (S.2.2.2.2 (.initialized "java/lang/IllegalStateException") (List.mem_of_getElem? (i := 2) rfl)) (by decide) (fun w hw => List.mem_cons_of_mem _ (List.mem_append_left _ (List.mem_append_left _ (List.mem_append_right _ hw)))) twX11_caught_58 toX11_caught_58 dX11_caught_58 dX11_caught_61 dX11_caught_62 dX11_caught_64 dX11_caught_67 ⟨Nat.le_of_ble_eq_true rfl, Nat.le_of_ble_eq_true rfl, Nat.le_of_ble_eq_true rfl, Nat.le_of_ble_eq_true rfl⟩ (Nat.le_of_ble_eq_true rfl) (Nat.le_of_ble_eq_true rfl)
set_option maxRecDepth 20000 in
theorem ggX11_change_X11_needPart : GoodIn wsX11_change wsX11_needPart := goodIn_ca (goodIn_r _ [8, 2, 9, 10, 11, 12, 13, 14, 15, 16, 7, 17, 18, 19, 20, 21, 22, 173, 174, 175, 176, 177, 178, 179, 180, 181, 182, 183, 184] (by decide +kernel) (by decide +kernel)) (goodIn_sub (fun _ h => List.mem_cons_of_mem _ (List.mem_append_left _ (List.mem_append_right _ h))) (by decide +kernel))
set_option maxRecDepth 20000 in
theorem gX11_change_X11_needPart : GoodIn wsX11_change (wsV RX11 154 RX11 yX11_needPart wsX11_needPart) := goodIn_app (goodIn_of _ (by decide +kernel)) ggX11_change_X11_needPart
set_option maxRecDepth 20000 in
theorem ggX11_change_X7_number : GoodIn wsX11_change wsX7_number := goodIn_r _ [27, 28, 185, 186, 187] (by decide +kernel) (by decide +kernel)
set_option maxRecDepth 20000 in
theorem gX11_change_X7_number : GoodIn wsX11_change (wsV RX11 69 RX7 yX7_number wsX7_number) := goodIn_app (goodIn_of _ (by decide +kernel)) ggX11_change_X7_number
set_option maxRecDepth 20000 in
theorem ggX11_change_X11_needIndex : GoodIn wsX11_change wsX11_needIndex := goodIn_ca (goodIn_r _ [17, 18, 19, 20, 21, 7, 22] (by decide +kernel) (by decide +kernel)) (goodIn_sub (fun _ h => List.mem_cons_of_mem _ (List.mem_append_left _ (List.mem_append_right _ h))) (by decide +kernel))
set_option maxRecDepth 20000 in
theorem gX11_change_X11_needIndex : GoodIn wsX11_change (va_wsS RX11 103 yX11_needIndex wsX11_needIndex) := goodIn_app (goodIn_of _ (by decide +kernel)) ggX11_change_X11_needIndex
set_option maxRecDepth 20000 in
theorem ggX11_change_X11_needRange : GoodIn wsX11_change wsX11_needRange := goodIn_ca (goodIn_r _ [31, 32, 33, 20, 21, 7, 22] (by decide +kernel) (by decide +kernel)) (goodIn_sub (fun _ h => List.mem_cons_of_mem _ (List.mem_append_right _ h)) (by decide +kernel))
set_option maxRecDepth 20000 in
theorem gX11_change_X11_needRange : GoodIn wsX11_change (va_wsS RX11 65 yX11_needRange wsX11_needRange) := goodIn_app (goodIn_of _ (by decide +kernel)) ggX11_change_X11_needRange
set_option maxRecDepth 20000 in
theorem ggX11_change_X8_numbered : GoodIn wsX11_change wsX8_numbered := goodIn_r _ [37, 38, 39, 21, 7, 22, 181, 182, 183, 184] (by decide +kernel) (by decide +kernel)
set_option maxRecDepth 20000 in
theorem gX11_change_X8_numbered : GoodIn wsX11_change (wsV RX11 140 RX8 yX8_numbered wsX8_numbered) := goodIn_app (goodIn_of _ (by decide +kernel)) ggX11_change_X8_numbered
set_option maxRecDepth 20000 in
theorem ggX11_change_X5_tell : GoodIn wsX11_change wsX5_tell := goodIn_r _ [44, 45, 46, 47, 48, 188, 189, 190, 191, 192, 193, 194] (by decide +kernel) (by decide +kernel)
set_option maxRecDepth 20000 in
theorem gX11_change_X5_tell : GoodIn wsX11_change (wsV RX11 144 RX5 yX5_tell wsX5_tell) := goodIn_app (goodIn_of _ (by decide +kernel)) ggX11_change_X5_tell
set_option maxRecDepth 20000 in
theorem ggX11_change_X1_number : GoodIn wsX11_change wsX1_number := goodIn_r _ [53, 54, 195, 196, 197, 198, 199] (by decide +kernel) (by decide +kernel)
set_option maxRecDepth 20000 in
theorem gX11_change_X1_number : GoodIn wsX11_change (wsV RX11 119 RX1 yX1_number wsX1_number) := goodIn_app (goodIn_of _ (by decide +kernel)) ggX11_change_X1_number
set_option maxRecDepth 20000 in
theorem ggX11_change_X8_findFrom : GoodIn wsX11_change wsX8_findFrom := goodIn_r _ [58, 14, 59, 60, 35, 36, 12, 37, 38, 39, 21, 7, 22, 61, 62, 63, 43, 64, 45, 65, 66, 67, 26, 68, 69, 70, 71, 72, 73, 74, 75, 76, 77, 78, 79, 80, 81, 82, 83, 84, 85, 86, 87, 88, 89, 90, 91, 92, 93, 94, 95, 96, 97, 98, 99, 100, 101, 102, 103, 104, 105, 48, 106, 107, 108, 109, 110, 111, 112, 113, 114, 115, 116, 117, 118, 119, 120, 121, 122, 123, 124, 125, 126, 127, 128, 129, 130, 131, 132, 133, 134, 135, 136, 137, 138, 139, 140, 141, 142, 143, 144, 145, 146, 147, 148, 149, 150, 151, 152, 153, 154, 155, 156, 157, 158, 159, 160, 161, 162, 163, 164, 165, 166, 167, 168, 169, 170, 171, 172, 181, 182, 183, 184, 188, 189, 190, 191, 192, 193, 194, 185, 186, 187, 200, 201, 202, 203, 204, 205, 206, 207, 208, 209] (by decide +kernel) (by decide +kernel)
set_option maxRecDepth 20000 in
theorem gX11_change_X8_findFrom : GoodIn wsX11_change (wsV RX11 150 RX8 yX8_findFrom wsX8_findFrom) := goodIn_app (goodIn_of _ (by decide +kernel)) ggX11_change_X8_findFrom
theorem dX11_change_0 : decode cX11_change 0 = .ok (.aload_n 0, 1) := by decide +kernel
theorem dX11_change_1 : decode cX11_change 1 = .ok (.iload_n 1, 1) := by decide +kernel
theorem dX11_change_2 : decode cX11_change 2 = .ok (.invokevirtual 154, 3) := by decide +kernel
theorem dX11_change_5 : decode cX11_change 5 = .ok (.iload_n 2, 1) := by decide +kernel
theorem dX11_change_6 : decode cX11_change 6 = .ok (.aload_n 0, 1) := by decide +kernel
theorem dX11_change_7 : decode cX11_change 7 = .ok (.getfield 19, 3) := by decide +kernel
theorem dX11_change_10 : decode cX11_change 10 = .ok (.invokevirtual 69, 3) := by decide +kernel
theorem dX11_change_13 : decode cX11_change 13 = .ok (.invokestatic 103, 3) := by decide +kernel
theorem dX11_change_16 : decode cX11_change 16 = .ok (.iload_n 3, 1) := by decide +kernel
theorem dX11_change_17 : decode cX11_change 17 = .ok (.iconst 1, 1) := by decide +kernel
theorem dX11_change_18 : decode cX11_change 18 = .ok (.bipush 64, 2) := by decide +kernel
theorem dX11_change_20 : decode cX11_change 20 = .ok (.invokestatic 65, 3) := by decide +kernel
theorem dX11_change_23 : decode cX11_change 23 = .ok (.iload 4, 2) := by decide +kernel
theorem dX11_change_25 : decode cX11_change 25 = .ok (.bipush 60, 2) := by decide +kernel
theorem dX11_change_27 : decode cX11_change 27 = .ok (.sipush 240, 3) := by decide +kernel
theorem dX11_change_30 : decode cX11_change 30 = .ok (.invokestatic 65, 3) := by decide +kernel
theorem dX11_change_33 : decode cX11_change 33 = .ok (.aload_n 0, 1) := by decide +kernel
theorem dX11_change_34 : decode cX11_change 34 = .ok (.getfield 26, 3) := by decide +kernel
theorem dX11_change_37 : decode cX11_change 37 = .ok (.iload_n 1, 1) := by decide +kernel
theorem dX11_change_38 : decode cX11_change 38 = .ok (.invokevirtual 140, 3) := by decide +kernel
theorem dX11_change_41 : decode cX11_change 41 = .ok (.iload_n 2, 1) := by decide +kernel
theorem dX11_change_42 : decode cX11_change 42 = .ok (.iload_n 3, 1) := by decide +kernel
theorem dX11_change_43 : decode cX11_change 43 = .ok (.iload 4, 2) := by decide +kernel
theorem dX11_change_45 : decode cX11_change 45 = .ok (.iload 5, 2) := by decide +kernel
theorem dX11_change_47 : decode cX11_change 47 = .ok (.invokevirtual 144, 3) := by decide +kernel
theorem dX11_change_50 : decode cX11_change 50 = .ok (.aload_n 0, 1) := by decide +kernel
theorem dX11_change_51 : decode cX11_change 51 = .ok (.getfield 26, 3) := by decide +kernel
theorem dX11_change_54 : decode cX11_change 54 = .ok (.iload_n 1, 1) := by decide +kernel
theorem dX11_change_55 : decode cX11_change 55 = .ok (.aload_n 0, 1) := by decide +kernel
theorem dX11_change_56 : decode cX11_change 56 = .ok (.getfield 19, 3) := by decide +kernel
theorem dX11_change_59 : decode cX11_change 59 = .ok (.aload_n 0, 1) := by decide +kernel
theorem dX11_change_60 : decode cX11_change 60 = .ok (.getfield 10, 3) := by decide +kernel
theorem dX11_change_63 : decode cX11_change 63 = .ok (.invokevirtual 119, 3) := by decide +kernel
theorem dX11_change_66 : decode cX11_change 66 = .ok (.invokevirtual 150, 3) := by decide +kernel
theorem dX11_change_69 : decode cX11_change 69 = .ok (.return_, 1) := by decide +kernel
def fX11_change (m : dM) (p0 : Nat) (p1 : Int32) (p2 : Int32) (p3 : Int32) (p4 : Int32) (p5 : Int32) : Option ((Nat × dM) ⊕ dM) := dg (dkg p0 12) ((fX11_needPart m p0 p1).bind (fun q => dS q (fun x => some (.inl x)) (fun m2 => (fX7_number m2 6).bind (fun v6 => (fX11_needIndex m2 p2 v6).bind (fun q => dS q (fun x => some (.inl x)) (fun m8 => (fX11_needRange m8 p3 1 64).bind (fun q => dS q (fun x => some (.inl x)) (fun m12 => (fX11_needRange m12 p4 60 240).bind (fun q => dS q (fun x => some (.inl x)) (fun m16 => (fX8_numbered m16 47 p1).bind (fun v20 => dg (dkg v20 6) ((fX5_tell m16 v20 p2 p3 p4 p5).bind (fun m23 => (fX1_number m23 1).bind (fun v25 => (fX8_findFrom m23 47 p1 6 v25).bind (fun m27 => some (.inr m27))))))))))))))))
set_option maxHeartbeats 4000000 in
set_option maxRecDepth 100000 in
theorem kX11_change (l : Launch) (g : dG) (hst : l.stackTraces = false) {m : dM} {p0 : Nat} {p1 : Int32} {p2 : Int32} {p3 : Int32} {p4 : Int32} {p5 : Int32} {o : ((Nat × dM) ⊕ dM)} (h : fX11_change m p0 p1 p2 p3 p4 p5 = some o) : dXMet l g yX11_change wsX11_change 8 141 4 [.ref (dad g p0), .int p1, .int p2, .int p3, .int p4, .int p5] m o (dXV g o) := by
  refine dxof (cc := cX11_change) (maxL := 6) (ret := none) _ (by decide) rfl (Nat.le_of_ble_eq_true rfl) ?_
  intro p e s mth below meth c S hr hlk hnt hE H ls hP hS hl
  have S : CallFix p mth c cX11_change 6 s _ wsX11_change RX11 := S
  have hl : lv_has ls 6 [(0, .ref (dad g p0)), (1, .int p1), (2, .int p2), (3, .int p3), (4, .int p4), (5, .int p5)] := hl
  obtain ⟨locs, hlocs⟩ : ∃ z : List Loc, z = [] := ⟨_, rfl⟩
  rw [← hlocs] at hS ⊢
  have in11 : ∀ w ∈ wsX110, w ∈ wsX11_change := by decide +kernel
  unfold fX11_change at h
  obtain ⟨k0, h⟩ := d_g h
  have k0 := d_k k0
  refine lv_aload_n S.1 S.2.1 dX11_change_0 rfl (lv_at hl 0 rfl) ?_
  refine lv_iload_n S.1 S.2.1 dX11_change_1 rfl (lv_at hl 1 rfl) ?_
  obtain ⟨q3, hc1, h⟩ := d_b h
  refine dxrv (o := q3) (vx_runV (As := [.int p1]) (rest := []) S (kX11_needPart l g hst hc1) (cwV 1 S.2.2.2.2 gX11_change_X11_needPart rfl rfl rfl ynX11_needPart ⟨Nat.le_of_ble_eq_true rfl, Nat.le_of_ble_eq_true rfl⟩) (dpV hE hP hS (ci := 11) rfl (dat12 k0)) rfl rfl hl.1 rfl (lv_room (Nat.le_of_ble_eq_true rfl)) dX11_change_2 ⟨Nat.le_of_ble_eq_true rfl, Nat.le_of_ble_eq_true rfl⟩) hS (fun u4 q9 ce H locs eo hP hS h1 h2 h3 => ?_) (fun m2 H locs eo hP hS => ?_)
  · subst eo
    have h := d_s1 h
    obtain rfl := Option.some.inj h
    exact dxout rfl hnt hlk hP hS h1 h2 h3 (Nat.le_of_ble_eq_true rfl) (Nat.le_of_ble_eq_true rfl)
  · subst eo
    have h := d_s2 h
    refine lv_iload_n S.1 S.2.1 dX11_change_5 rfl (lv_at hl 2 rfl) ?_
    refine lv_aload_n S.1 S.2.1 dX11_change_6 rfl (lv_at hl 0 rfl) ?_
    refine dgf11_1 S in11 hE hP k0 (S.2.2.2.2 (.fieldLink RX11 19 "DrillField" "sets" "LDrillField$Sets;") (List.mem_of_getElem? (i := 1) rfl)) dX11_change_7 ?_
    obtain ⟨v6, hc5, h⟩ := d_b h
    refine dri (va_runV (As := []) (rest := [.int p2]) S (kX7_number l g hc5) (cwV 0 S.2.2.2.2 gX11_change_X7_number rfl rfl rfl ynX7_number ⟨Nat.le_of_ble_eq_true rfl, Nat.le_of_ble_eq_true rfl⟩) (dpV hE hP hS (ci := 7) rfl (dat8 dk_6)) rfl rfl hl.1 rfl (lv_room (Nat.le_of_ble_eq_true rfl)) dX11_change_10 ⟨Nat.le_of_ble_eq_true rfl, Nat.le_of_ble_eq_true rfl⟩) hS (fun H locs hP hS => ?_)
    obtain ⟨q9, hc7, h⟩ := d_b h
    refine dxrv (o := q9) (vx_runS (As := [.int p2, .int v6]) (rest := []) S (kX11_needIndex l g hst hc7) (va_cwS 2 S.2.2.2.2 gX11_change_X11_needIndex rfl rfl rfl ynX11_needIndex ⟨Nat.le_of_ble_eq_true rfl, Nat.le_of_ble_eq_true rfl⟩) (dpS hE hP hS) rfl rfl hl.1 rfl (lv_room (Nat.le_of_ble_eq_true rfl)) dX11_change_13 ⟨Nat.le_of_ble_eq_true rfl, Nat.le_of_ble_eq_true rfl⟩) hS (fun u10 q9 ce H locs eo hP hS h1 h2 h3 => ?_) (fun m8 H locs eo hP hS => ?_)
    · subst eo
      have h := d_s1 h
      obtain rfl := Option.some.inj h
      exact dxout rfl hnt hlk hP hS h1 h2 h3 (Nat.le_of_ble_eq_true rfl) (Nat.le_of_ble_eq_true rfl)
    · subst eo
      have h := d_s2 h
      refine lv_iload_n S.1 S.2.1 dX11_change_16 rfl (lv_at hl 3 rfl) ?_
      refine lv_iconst (v := 1) S.1 S.2.1 dX11_change_17 (by decide) ?_
      refine lv_bipush (v := 64) S.1 S.2.1 dX11_change_18 (by decide) ?_
      obtain ⟨q13, hc11, h⟩ := d_b h
      refine dxrv (o := q13) (vx_runS (As := [.int p3, .int 1, .int 64]) (rest := []) S (kX11_needRange l g hst hc11) (va_cwS 3 S.2.2.2.2 gX11_change_X11_needRange rfl rfl rfl ynX11_needRange ⟨Nat.le_of_ble_eq_true rfl, Nat.le_of_ble_eq_true rfl⟩) (dpS hE hP hS) rfl rfl hl.1 rfl (lv_room (Nat.le_of_ble_eq_true rfl)) dX11_change_20 ⟨Nat.le_of_ble_eq_true rfl, Nat.le_of_ble_eq_true rfl⟩) hS (fun u14 q9 ce H locs eo hP hS h1 h2 h3 => ?_) (fun m12 H locs eo hP hS => ?_)
      · subst eo
        have h := d_s1 h
        obtain rfl := Option.some.inj h
        exact dxout rfl hnt hlk hP hS h1 h2 h3 (Nat.le_of_ble_eq_true rfl) (Nat.le_of_ble_eq_true rfl)
      · subst eo
        have h := d_s2 h
        refine lv_iload S.1 S.2.1 dX11_change_23 (lv_at hl 4 rfl) ?_
        refine lv_bipush (v := 60) S.1 S.2.1 dX11_change_25 (by decide) ?_
        refine lv_sipush (v := 240) S.1 S.2.1 dX11_change_27 (by decide) ?_
        obtain ⟨q17, hc15, h⟩ := d_b h
        refine dxrv (o := q17) (vx_runS (As := [.int p4, .int 60, .int 240]) (rest := []) S (kX11_needRange l g hst hc15) (va_cwS 3 S.2.2.2.2 gX11_change_X11_needRange rfl rfl rfl ynX11_needRange ⟨Nat.le_of_ble_eq_true rfl, Nat.le_of_ble_eq_true rfl⟩) (dpS hE hP hS) rfl rfl hl.1 rfl (lv_room (Nat.le_of_ble_eq_true rfl)) dX11_change_30 ⟨Nat.le_of_ble_eq_true rfl, Nat.le_of_ble_eq_true rfl⟩) hS (fun u18 q9 ce H locs eo hP hS h1 h2 h3 => ?_) (fun m16 H locs eo hP hS => ?_)
        · subst eo
          have h := d_s1 h
          obtain rfl := Option.some.inj h
          exact dxout rfl hnt hlk hP hS h1 h2 h3 (Nat.le_of_ble_eq_true rfl) (Nat.le_of_ble_eq_true rfl)
        · subst eo
          have h := d_s2 h
          refine lv_aload_n S.1 S.2.1 dX11_change_33 rfl (lv_at hl 0 rfl) ?_
          refine dgf11_2 S in11 hE hP k0 (S.2.2.2.2 (.fieldLink RX11 26 "DrillField" "show" "LDrillField$Show;") (List.mem_of_getElem? (i := 2) rfl)) dX11_change_34 ?_
          refine lv_iload_n S.1 S.2.1 dX11_change_37 rfl (lv_at hl 1 rfl) ?_
          obtain ⟨v20, hc19, h⟩ := d_b h
          obtain ⟨hk21, h⟩ := d_g h
          have hk21 := d_k hk21
          refine drr (va_runV (As := [.int p1]) (rest := []) S (kX8_numbered l g hc19) (cwV 1 S.2.2.2.2 gX11_change_X8_numbered rfl rfl rfl ynX8_numbered ⟨Nat.le_of_ble_eq_true rfl, Nat.le_of_ble_eq_true rfl⟩) (dpV hE hP hS (ci := 8) rfl (dat9 dk_47)) rfl rfl hl.1 rfl (lv_room (Nat.le_of_ble_eq_true rfl)) dX11_change_38 ⟨Nat.le_of_ble_eq_true rfl, Nat.le_of_ble_eq_true rfl⟩) hS (fun H locs hP hS => ?_)
          refine lv_iload_n S.1 S.2.1 dX11_change_41 rfl (lv_at hl 2 rfl) ?_
          refine lv_iload_n S.1 S.2.1 dX11_change_42 rfl (lv_at hl 3 rfl) ?_
          refine lv_iload S.1 S.2.1 dX11_change_43 (lv_at hl 4 rfl) ?_
          refine lv_iload S.1 S.2.1 dX11_change_45 (lv_at hl 5 rfl) ?_
          obtain ⟨m23, hc22, h⟩ := d_b h
          refine drv (va_runV (As := [.int p2, .int p3, .int p4, .int p5]) (rest := []) S (kX5_tell l g hc22) (cwV 4 S.2.2.2.2 gX11_change_X5_tell rfl rfl rfl ynX5_tell ⟨Nat.le_of_ble_eq_true rfl, Nat.le_of_ble_eq_true rfl⟩) (dpV hE hP hS (ci := 5) rfl (dat6 hk21)) rfl rfl hl.1 rfl (lv_room (Nat.le_of_ble_eq_true rfl)) dX11_change_47 ⟨Nat.le_of_ble_eq_true rfl, Nat.le_of_ble_eq_true rfl⟩) hS (fun H locs hP hS => ?_)
          refine lv_aload_n S.1 S.2.1 dX11_change_50 rfl (lv_at hl 0 rfl) ?_
          refine dgf11_2 S in11 hE hP k0 (S.2.2.2.2 (.fieldLink RX11 26 "DrillField" "show" "LDrillField$Show;") (List.mem_of_getElem? (i := 2) rfl)) dX11_change_51 ?_
          refine lv_iload_n S.1 S.2.1 dX11_change_54 rfl (lv_at hl 1 rfl) ?_
          refine lv_aload_n S.1 S.2.1 dX11_change_55 rfl (lv_at hl 0 rfl) ?_
          refine dgf11_1 S in11 hE hP k0 (S.2.2.2.2 (.fieldLink RX11 19 "DrillField" "sets" "LDrillField$Sets;") (List.mem_of_getElem? (i := 1) rfl)) dX11_change_56 ?_
          refine lv_aload_n S.1 S.2.1 dX11_change_59 rfl (lv_at hl 0 rfl) ?_
          refine dgf11_0 S in11 hE hP k0 (S.2.2.2.2 (.fieldLink RX11 10 "DrillField" "dots" "LDrillField$Dots;") (List.mem_of_getElem? (i := 3) rfl)) dX11_change_60 ?_
          obtain ⟨v25, hc24, h⟩ := d_b h
          refine dri (va_runV (As := []) (rest := [.ref (dad g 6), .int p1, .ref (dad g 47)]) S (kX1_number l g hc24) (cwV 0 S.2.2.2.2 gX11_change_X1_number rfl rfl rfl ynX1_number ⟨Nat.le_of_ble_eq_true rfl, Nat.le_of_ble_eq_true rfl⟩) (dpV hE hP hS (ci := 1) rfl (dat2 dk_1)) rfl rfl hl.1 rfl (lv_room (Nat.le_of_ble_eq_true rfl)) dX11_change_63 ⟨Nat.le_of_ble_eq_true rfl, Nat.le_of_ble_eq_true rfl⟩) hS (fun H locs hP hS => ?_)
          obtain ⟨m27, hc26, h⟩ := d_b h
          refine drv (va_runV (As := [.int p1, .ref (dad g 6), .int v25]) (rest := []) S (kX8_findFrom l g hc26) (cwV 3 S.2.2.2.2 gX11_change_X8_findFrom rfl rfl rfl ynX8_findFrom ⟨Nat.le_of_ble_eq_true rfl, Nat.le_of_ble_eq_true rfl⟩) (dpV hE hP hS (ci := 8) rfl (dat9 dk_47)) rfl rfl hl.1 rfl (lv_room (Nat.le_of_ble_eq_true rfl)) dX11_change_66 ⟨Nat.le_of_ble_eq_true rfl, Nat.le_of_ble_eq_true rfl⟩) hS (fun H locs hP hS => ?_)
          obtain rfl := Option.some.inj h
          exact dxtv rfl S hr hlk hE hP hS (Nat.le_of_ble_eq_true rfl) (Nat.le_of_ble_eq_true rfl) dX11_change_69
set_option maxRecDepth 20000 in
theorem ggX11_clock_X11_needRange : GoodIn wsX11_clock wsX11_needRange := goodIn_ca (goodIn_r _ [5, 6, 7, 8, 9, 4, 10] (by decide +kernel) (by decide +kernel)) (goodIn_sub (fun _ h => List.mem_cons_of_mem _ (List.mem_append_right _ h)) (by decide +kernel))
set_option maxRecDepth 20000 in
theorem gX11_clock_X11_needRange : GoodIn wsX11_clock (va_wsS RX11 65 yX11_needRange wsX11_needRange) := goodIn_app (goodIn_of _ (by decide +kernel)) ggX11_clock_X11_needRange
set_option maxRecDepth 20000 in
theorem ggX11_clock_X0_tellClock : GoodIn wsX11_clock wsX0_tellClock := goodIn_r _ [15, 16, 17, 26, 27, 28, 29] (by decide +kernel) (by decide +kernel)
set_option maxRecDepth 20000 in
theorem gX11_clock_X0_tellClock : GoodIn wsX11_clock (wsV RX11 244 RX0 yX0_tellClock wsX0_tellClock) := goodIn_app (goodIn_of _ (by decide +kernel)) ggX11_clock_X0_tellClock
theorem dX11_clock_0 : decode cX11_clock 0 = .ok (.iload_n 1, 1) := by decide +kernel
theorem dX11_clock_1 : decode cX11_clock 1 = .ok (.iconst 0, 1) := by decide +kernel
theorem dX11_clock_2 : decode cX11_clock 2 = .ok (.sipush 9999, 3) := by decide +kernel
theorem dX11_clock_5 : decode cX11_clock 5 = .ok (.invokestatic 65, 3) := by decide +kernel
theorem dX11_clock_8 : decode cX11_clock 8 = .ok (.iload_n 2, 1) := by decide +kernel
theorem dX11_clock_9 : decode cX11_clock 9 = .ok (.iload_n 1, 1) := by decide +kernel
theorem dX11_clock_10 : decode cX11_clock 10 = .ok (.sipush 9999, 3) := by decide +kernel
theorem dX11_clock_13 : decode cX11_clock 13 = .ok (.invokestatic 65, 3) := by decide +kernel
theorem dX11_clock_16 : decode cX11_clock 16 = .ok (.aload_n 0, 1) := by decide +kernel
theorem dX11_clock_17 : decode cX11_clock 17 = .ok (.getfield 61, 3) := by decide +kernel
theorem dX11_clock_20 : decode cX11_clock 20 = .ok (.iload_n 1, 1) := by decide +kernel
theorem dX11_clock_21 : decode cX11_clock 21 = .ok (.iload_n 2, 1) := by decide +kernel
theorem dX11_clock_22 : decode cX11_clock 22 = .ok (.invokevirtual 244, 3) := by decide +kernel
theorem dX11_clock_25 : decode cX11_clock 25 = .ok (.return_, 1) := by decide +kernel
def fX11_clock (m : dM) (p0 : Nat) (p1 : Int32) (p2 : Int32) : Option ((Nat × dM) ⊕ dM) := dg (dkg p0 12) ((fX11_needRange m p1 0 9999).bind (fun q => dS q (fun x => some (.inl x)) (fun m2 => (fX11_needRange m2 p2 p1 9999).bind (fun q => dS q (fun x => some (.inl x)) (fun m6 => (fX0_tellClock m6 435 p1 p2).bind (fun m10 => some (.inr m10)))))))
set_option maxHeartbeats 4000000 in
set_option maxRecDepth 100000 in
theorem kX11_clock (l : Launch) (g : dG) (hst : l.stackTraces = false) {m : dM} {p0 : Nat} {p1 : Int32} {p2 : Int32} {o : ((Nat × dM) ⊕ dM)} (h : fX11_clock m p0 p1 p2 = some o) : dXMet l g yX11_clock wsX11_clock 7 112 2 [.ref (dad g p0), .int p1, .int p2] m o (dXV g o) := by
  refine dxof (cc := cX11_clock) (maxL := 3) (ret := none) _ (by decide) rfl (Nat.le_of_ble_eq_true rfl) ?_
  intro p e s mth below meth c S hr hlk hnt hE H ls hP hS hl
  have S : CallFix p mth c cX11_clock 3 s _ wsX11_clock RX11 := S
  have hl : lv_has ls 3 [(0, .ref (dad g p0)), (1, .int p1), (2, .int p2)] := hl
  obtain ⟨locs, hlocs⟩ : ∃ z : List Loc, z = [] := ⟨_, rfl⟩
  rw [← hlocs] at hS ⊢
  have in11 : ∀ w ∈ wsX110, w ∈ wsX11_clock := by decide +kernel
  unfold fX11_clock at h
  obtain ⟨k0, h⟩ := d_g h
  have k0 := d_k k0
  refine lv_iload_n S.1 S.2.1 dX11_clock_0 rfl (lv_at hl 1 rfl) ?_
  refine lv_iconst (v := 0) S.1 S.2.1 dX11_clock_1 (by decide) ?_
  refine lv_sipush (v := 9999) S.1 S.2.1 dX11_clock_2 (by decide) ?_
  obtain ⟨q3, hc1, h⟩ := d_b h
  refine dxrv (o := q3) (vx_runS (As := [.int p1, .int 0, .int 9999]) (rest := []) S (kX11_needRange l g hst hc1) (va_cwS 3 S.2.2.2.2 gX11_clock_X11_needRange rfl rfl rfl ynX11_needRange ⟨Nat.le_of_ble_eq_true rfl, Nat.le_of_ble_eq_true rfl⟩) (dpS hE hP hS) rfl rfl hl.1 rfl (lv_room (Nat.le_of_ble_eq_true rfl)) dX11_clock_5 ⟨Nat.le_of_ble_eq_true rfl, Nat.le_of_ble_eq_true rfl⟩) hS (fun u4 q9 ce H locs eo hP hS h1 h2 h3 => ?_) (fun m2 H locs eo hP hS => ?_)
  · subst eo
    have h := d_s1 h
    obtain rfl := Option.some.inj h
    exact dxout rfl hnt hlk hP hS h1 h2 h3 (Nat.le_of_ble_eq_true rfl) (Nat.le_of_ble_eq_true rfl)
  · subst eo
    have h := d_s2 h
    refine lv_iload_n S.1 S.2.1 dX11_clock_8 rfl (lv_at hl 2 rfl) ?_
    refine lv_iload_n S.1 S.2.1 dX11_clock_9 rfl (lv_at hl 1 rfl) ?_
    refine lv_sipush (v := 9999) S.1 S.2.1 dX11_clock_10 (by decide) ?_
    obtain ⟨q7, hc5, h⟩ := d_b h
    refine dxrv (o := q7) (vx_runS (As := [.int p2, .int p1, .int 9999]) (rest := []) S (kX11_needRange l g hst hc5) (va_cwS 3 S.2.2.2.2 gX11_clock_X11_needRange rfl rfl rfl ynX11_needRange ⟨Nat.le_of_ble_eq_true rfl, Nat.le_of_ble_eq_true rfl⟩) (dpS hE hP hS) rfl rfl hl.1 rfl (lv_room (Nat.le_of_ble_eq_true rfl)) dX11_clock_13 ⟨Nat.le_of_ble_eq_true rfl, Nat.le_of_ble_eq_true rfl⟩) hS (fun u8 q9 ce H locs eo hP hS h1 h2 h3 => ?_) (fun m6 H locs eo hP hS => ?_)
    · subst eo
      have h := d_s1 h
      obtain rfl := Option.some.inj h
      exact dxout rfl hnt hlk hP hS h1 h2 h3 (Nat.le_of_ble_eq_true rfl) (Nat.le_of_ble_eq_true rfl)
    · subst eo
      have h := d_s2 h
      refine lv_aload_n S.1 S.2.1 dX11_clock_16 rfl (lv_at hl 0 rfl) ?_
      refine dgf11_7 S in11 hE hP k0 (S.2.2.2.2 (.fieldLink RX11 61 "DrillField" "contest" "LDrillField$Contest;") (List.mem_of_getElem? (i := 1) rfl)) dX11_clock_17 ?_
      refine lv_iload_n S.1 S.2.1 dX11_clock_20 rfl (lv_at hl 1 rfl) ?_
      refine lv_iload_n S.1 S.2.1 dX11_clock_21 rfl (lv_at hl 2 rfl) ?_
      obtain ⟨m10, hc9, h⟩ := d_b h
      refine drv (va_runV (As := [.int p1, .int p2]) (rest := []) S (kX0_tellClock l g hc9) (cwV 2 S.2.2.2.2 gX11_clock_X0_tellClock rfl rfl rfl ynX0_tellClock ⟨Nat.le_of_ble_eq_true rfl, Nat.le_of_ble_eq_true rfl⟩) (dpV hE hP hS (ci := 0) rfl (dat1 dk_435)) rfl rfl hl.1 rfl (lv_room (Nat.le_of_ble_eq_true rfl)) dX11_clock_22 ⟨Nat.le_of_ble_eq_true rfl, Nat.le_of_ble_eq_true rfl⟩) hS (fun H locs hP hS => ?_)
      obtain rfl := Option.some.inj h
      exact dxtv rfl S hr hlk hE hP hS (Nat.le_of_ble_eq_true rfl) (Nat.le_of_ble_eq_true rfl) dX11_clock_25
set_option maxRecDepth 20000 in
theorem ggX11_cut_X8_number : GoodIn wsX11_cut wsX8_number := goodIn_r _ [8, 9, 26, 27, 28, 29] (by decide +kernel) (by decide +kernel)
set_option maxRecDepth 20000 in
theorem gX11_cut_X8_number : GoodIn wsX11_cut (wsV RX11 134 RX8 yX8_number wsX8_number) := goodIn_app (goodIn_of _ (by decide +kernel)) ggX11_cut_X8_number
set_option maxRecDepth 20000 in
theorem ggX11_cut_X8_shrink : GoodIn wsX11_cut wsX8_shrink := goodIn_r _ [13, 9, 14, 15, 16, 17, 26, 27, 28, 29] (by decide +kernel) (by decide +kernel)
set_option maxRecDepth 20000 in
theorem gX11_cut_X8_shrink : GoodIn wsX11_cut (wsV RX11 159 RX8 yX8_shrink wsX8_shrink) := goodIn_app (goodIn_of _ (by decide +kernel)) ggX11_cut_X8_shrink
theorem dX11_cut_0 : decode cX11_cut 0 = .ok (.aload_n 0, 1) := by decide +kernel
theorem dX11_cut_1 : decode cX11_cut 1 = .ok (.getfield 26, 3) := by decide +kernel
theorem dX11_cut_4 : decode cX11_cut 4 = .ok (.invokevirtual 134, 3) := by decide +kernel
theorem dX11_cut_7 : decode cX11_cut 7 = .ok (.ifCond .ne 13, 3) := by decide +kernel
theorem dX11_cut_10 : decode cX11_cut 10 = .ok (.new 73, 3) := by decide +kernel
theorem dX11_cut_13 : decode cX11_cut 13 = .ok (.dup, 1) := by decide +kernel
theorem dX11_cut_14 : decode cX11_cut 14 = .ok (.ldc 157, 2) := by decide +kernel
theorem dX11_cut_16 : decode cX11_cut 16 = .ok (.invokespecial 77, 3) := by decide +kernel
theorem dX11_cut_19 : decode cX11_cut 19 = .ok (.athrow, 1) := by decide +kernel
theorem dX11_cut_20 : decode cX11_cut 20 = .ok (.aload_n 0, 1) := by decide +kernel
theorem dX11_cut_21 : decode cX11_cut 21 = .ok (.getfield 26, 3) := by decide +kernel
theorem dX11_cut_24 : decode cX11_cut 24 = .ok (.invokevirtual 159, 3) := by decide +kernel
theorem dX11_cut_27 : decode cX11_cut 27 = .ok (.aload_n 0, 1) := by decide +kernel
theorem dX11_cut_28 : decode cX11_cut 28 = .ok (.getfield 26, 3) := by decide +kernel
theorem dX11_cut_31 : decode cX11_cut 31 = .ok (.invokevirtual 134, 3) := by decide +kernel
theorem dX11_cut_34 : decode cX11_cut 34 = .ok (.ireturn, 1) := by decide +kernel
theorem twX11_cut_10 : ∀ w ∈ (vx_atS RX11 77 (dEx 2) dNms).filter (fun w => !goodWord w), w ∈ [Cond.declares (Bundle.initS "java/lang/RuntimeException"), Cond.declares (Bundle.initS "java/lang/Exception"), Cond.declares (Bundle.initS Bundle.tN), Cond.castable (dEx 2) (dEx 2)] := by decide +kernel
theorem toX11_cut_10 : ∀ w ∈ Cond.classLink RX11 73 (dEx 2) :: Cond.initialized (dEx 2) :: vx_atS RX11 77 (dEx 2) dNms, vx_ot w = true := by decide +kernel
def fX11_cut (m : dM) (p0 : Nat) : Option ((Nat × dM) ⊕ (Int32 × dM)) := dg (dkg p0 12) ((fX8_number m 47).bind (fun v2 => if v2 = 0 then some (.inl (2, m)) else (fX8_shrink m 47).bind (fun m4 => (fX8_number m4 47).bind (fun v6 => some (.inr (v6, m4))))))
set_option maxHeartbeats 4000000 in
set_option maxRecDepth 100000 in
theorem kX11_cut (l : Launch) (g : dG) (hst : l.stackTraces = false) {m : dM} {p0 : Nat} {o : ((Nat × dM) ⊕ (Int32 × dM))} (h : fX11_cut m p0 = some o) : dXMet l g yX11_cut wsX11_cut 6 90 1 [.ref (dad g p0)] m o (dXI g o) := by
  refine dxof (cc := cX11_cut) (maxL := 1) (ret := (some .int)) _ (by decide) rfl (Nat.le_of_ble_eq_true rfl) ?_
  intro p e s mth below meth c S hr hlk hnt hE H ls hP hS hl
  have S : CallFix p mth c cX11_cut 1 s _ wsX11_cut RX11 := S
  have hl : lv_has ls 1 [(0, .ref (dad g p0))] := hl
  obtain ⟨locs, hlocs⟩ : ∃ z : List Loc, z = [] := ⟨_, rfl⟩
  rw [← hlocs] at hS ⊢
  have in11 : ∀ w ∈ wsX110, w ∈ wsX11_cut := by decide +kernel
  unfold fX11_cut at h
  obtain ⟨k0, h⟩ := d_g h
  have k0 := d_k k0
  refine lv_aload_n S.1 S.2.1 dX11_cut_0 rfl (lv_at hl 0 rfl) ?_
  refine dgf11_2 S in11 hE hP k0 (S.2.2.2.2 (.fieldLink RX11 26 "DrillField" "show" "LDrillField$Show;") (List.mem_of_getElem? (i := 3) rfl)) dX11_cut_1 ?_
  obtain ⟨v2, hc1, h⟩ := d_b h
  refine dri (va_runV (As := []) (rest := []) S (kX8_number l g hc1) (cwV 0 S.2.2.2.2 gX11_cut_X8_number rfl rfl rfl ynX8_number ⟨Nat.le_of_ble_eq_true rfl, Nat.le_of_ble_eq_true rfl⟩) (dpV hE hP hS (ci := 8) rfl (dat9 dk_47)) rfl rfl hl.1 rfl (lv_room (Nat.le_of_ble_eq_true rfl)) dX11_cut_4 ⟨Nat.le_of_ble_eq_true rfl, Nat.le_of_ble_eq_true rfl⟩) hS (fun H locs hP hS => ?_)
  refine lv_if_ne (tgt := 20) S.1 S.2.1 dX11_cut_7 (by decide) (fun cq => ?_) (fun cq => ?_)
  · have h := d_f cq h
    refine lv_aload_n S.1 S.2.1 dX11_cut_20 rfl (lv_at hl 0 rfl) ?_
    refine dgf11_2 S in11 hE hP k0 (S.2.2.2.2 (.fieldLink RX11 26 "DrillField" "show" "LDrillField$Show;") (List.mem_of_getElem? (i := 3) rfl)) dX11_cut_21 ?_
    obtain ⟨m4, hc3, h⟩ := d_b h
    refine drv (va_runV (As := []) (rest := []) S (kX8_shrink l g hc3) (cwV 0 S.2.2.2.2 gX11_cut_X8_shrink rfl rfl rfl ynX8_shrink ⟨Nat.le_of_ble_eq_true rfl, Nat.le_of_ble_eq_true rfl⟩) (dpV hE hP hS (ci := 8) rfl (dat9 dk_47)) rfl rfl hl.1 rfl (lv_room (Nat.le_of_ble_eq_true rfl)) dX11_cut_24 ⟨Nat.le_of_ble_eq_true rfl, Nat.le_of_ble_eq_true rfl⟩) hS (fun H locs hP hS => ?_)
    refine lv_aload_n S.1 S.2.1 dX11_cut_27 rfl (lv_at hl 0 rfl) ?_
    refine dgf11_2 S in11 hE hP k0 (S.2.2.2.2 (.fieldLink RX11 26 "DrillField" "show" "LDrillField$Show;") (List.mem_of_getElem? (i := 3) rfl)) dX11_cut_28 ?_
    obtain ⟨v6, hc5, h⟩ := d_b h
    refine dri (va_runV (As := []) (rest := []) S (kX8_number l g hc5) (cwV 0 S.2.2.2.2 gX11_cut_X8_number rfl rfl rfl ynX8_number ⟨Nat.le_of_ble_eq_true rfl, Nat.le_of_ble_eq_true rfl⟩) (dpV hE hP hS (ci := 8) rfl (dat9 dk_47)) rfl rfl hl.1 rfl (lv_room (Nat.le_of_ble_eq_true rfl)) dX11_cut_31 ⟨Nat.le_of_ble_eq_true rfl, Nat.le_of_ble_eq_true rfl⟩) hS (fun H locs hP hS => ?_)
    obtain rfl := Option.some.inj h
    exact dxti rfl S hr hlk hE hP hS rfl (Nat.le_of_ble_eq_true rfl) (Nat.le_of_ble_eq_true rfl) dX11_cut_34
  · have h := d_t cq h
    obtain rfl := Option.some.inj h
    exact dx_throwS (k := 2) (text := "there is no part") rfl S hst hlk hnt hE hP hS (by decide) (by decide) hl.1 (S.2.2.2.2 (.classLink RX11 73 "java/lang/IllegalStateException") (List.mem_of_getElem? (i := 1) rfl)) (S.2.2.2.2 (.initialized "java/lang/IllegalStateException") (List.mem_of_getElem? (i := 2) rfl)) (by decide) (fun w hw => List.mem_cons_of_mem _ (List.mem_append_right _ hw)) twX11_cut_10 toX11_cut_10 dX11_cut_10 dX11_cut_13 dX11_cut_14 dX11_cut_16 dX11_cut_19 ⟨Nat.le_of_ble_eq_true rfl, Nat.le_of_ble_eq_true rfl, Nat.le_of_ble_eq_true rfl, Nat.le_of_ble_eq_true rfl⟩ (Nat.le_of_ble_eq_true rfl) (Nat.le_of_ble_eq_true rfl)
set_option maxRecDepth 20000 in
theorem ggX11_fault_X11_needPart : GoodIn wsX11_fault wsX11_needPart := goodIn_ca (goodIn_r _ [8, 2, 9, 10, 11, 12, 13, 14, 15, 16, 7, 17, 18, 19, 20, 21, 22, 169, 170, 171, 172, 173, 174, 175, 176, 177, 178, 179, 180] (by decide +kernel) (by decide +kernel)) (goodIn_sub (fun _ h => List.mem_cons_of_mem _ (List.mem_append_left _ (List.mem_append_right _ h))) (by decide +kernel))
set_option maxRecDepth 20000 in
theorem gX11_fault_X11_needPart : GoodIn wsX11_fault (wsV RX11 154 RX11 yX11_needPart wsX11_needPart) := goodIn_app (goodIn_of _ (by decide +kernel)) ggX11_fault_X11_needPart
set_option maxRecDepth 20000 in
theorem ggX11_fault_X11_needRange : GoodIn wsX11_fault wsX11_needRange := goodIn_ca (goodIn_r _ [25, 26, 27, 20, 21, 7, 22] (by decide +kernel) (by decide +kernel)) (goodIn_sub (fun _ h => List.mem_cons_of_mem _ (List.mem_append_right _ h)) (by decide +kernel))
set_option maxRecDepth 20000 in
theorem gX11_fault_X11_needRange : GoodIn wsX11_fault (va_wsS RX11 65 yX11_needRange wsX11_needRange) := goodIn_app (goodIn_of _ (by decide +kernel)) ggX11_fault_X11_needRange
set_option maxRecDepth 20000 in
theorem ggX11_fault_X8_numbered : GoodIn wsX11_fault wsX8_numbered := goodIn_r _ [31, 32, 33, 21, 7, 22, 177, 178, 179, 180] (by decide +kernel) (by decide +kernel)
set_option maxRecDepth 20000 in
theorem gX11_fault_X8_numbered : GoodIn wsX11_fault (wsV RX11 140 RX8 yX8_numbered wsX8_numbered) := goodIn_app (goodIn_of _ (by decide +kernel)) ggX11_fault_X8_numbered
set_option maxRecDepth 20000 in
theorem ggX11_fault_X10_look : GoodIn wsX11_fault wsX10_look := goodIn_r _ [38, 39, 40, 41, 42, 43, 44, 45, 46, 47, 48, 49, 50, 51, 52, 53, 54, 55, 56, 57, 58, 59, 60, 61, 62, 63, 64, 65, 66, 67, 68, 37, 69, 70, 71, 21, 7, 22, 72, 73, 74, 75, 76, 77, 78, 79, 80, 81, 82, 83, 84, 85, 86, 87, 88, 89, 90, 91, 92, 93, 94, 95, 96, 97, 98, 99, 100, 101, 102, 103, 104, 105, 106, 107, 108, 109, 110, 111, 112, 113, 114, 115, 116, 117, 118, 119, 120, 121, 122, 123, 124, 125, 126, 127, 128, 129, 130, 131, 132, 133, 134, 135, 136, 137, 138, 139, 140, 141, 142, 143, 144, 145, 146, 147, 148, 149, 150, 151, 152, 153, 154, 155, 156, 157, 158, 159, 160, 161, 162, 163, 164, 181, 182, 183, 184, 185, 186, 187, 188, 189, 190, 191, 192, 193, 194, 195, 196, 197, 198, 199, 200, 201, 202] (by decide +kernel) (by decide +kernel)
set_option maxRecDepth 20000 in
theorem gX11_fault_X10_look : GoodIn wsX11_fault (wsV RX11 179 RX10 yX10_look wsX10_look) := goodIn_app (goodIn_of _ (by decide +kernel)) ggX11_fault_X10_look
set_option maxRecDepth 20000 in
theorem ggX11_fault_X2_said : GoodIn wsX11_fault wsX2_said := goodIn_r _ [168, 56, 57, 58, 59, 190, 191, 192, 193] (by decide +kernel) (by decide +kernel)
set_option maxRecDepth 20000 in
theorem gX11_fault_X2_said : GoodIn wsX11_fault (wsV RX11 183 RX2 yX2_said wsX2_said) := goodIn_app (goodIn_of _ (by decide +kernel)) ggX11_fault_X2_said
theorem dX11_fault_0 : decode cX11_fault 0 = .ok (.aload_n 0, 1) := by decide +kernel
theorem dX11_fault_1 : decode cX11_fault 1 = .ok (.iload_n 1, 1) := by decide +kernel
theorem dX11_fault_2 : decode cX11_fault 2 = .ok (.invokevirtual 154, 3) := by decide +kernel
theorem dX11_fault_5 : decode cX11_fault 5 = .ok (.iload_n 2, 1) := by decide +kernel
theorem dX11_fault_6 : decode cX11_fault 6 = .ok (.iconst 0, 1) := by decide +kernel
theorem dX11_fault_7 : decode cX11_fault 7 = .ok (.iconst 3, 1) := by decide +kernel
theorem dX11_fault_8 : decode cX11_fault 8 = .ok (.invokestatic 65, 3) := by decide +kernel
theorem dX11_fault_11 : decode cX11_fault 11 = .ok (.aload_n 0, 1) := by decide +kernel
theorem dX11_fault_12 : decode cX11_fault 12 = .ok (.getfield 33, 3) := by decide +kernel
theorem dX11_fault_15 : decode cX11_fault 15 = .ok (.aload_n 0, 1) := by decide +kernel
theorem dX11_fault_16 : decode cX11_fault 16 = .ok (.getfield 26, 3) := by decide +kernel
theorem dX11_fault_19 : decode cX11_fault 19 = .ok (.iload_n 1, 1) := by decide +kernel
theorem dX11_fault_20 : decode cX11_fault 20 = .ok (.invokevirtual 140, 3) := by decide +kernel
theorem dX11_fault_23 : decode cX11_fault 23 = .ok (.aload_n 0, 1) := by decide +kernel
theorem dX11_fault_24 : decode cX11_fault 24 = .ok (.getfield 10, 3) := by decide +kernel
theorem dX11_fault_27 : decode cX11_fault 27 = .ok (.invokevirtual 179, 3) := by decide +kernel
theorem dX11_fault_30 : decode cX11_fault 30 = .ok (.iload_n 2, 1) := by decide +kernel
theorem dX11_fault_31 : decode cX11_fault 31 = .ok (.invokevirtual 183, 3) := by decide +kernel
theorem dX11_fault_34 : decode cX11_fault 34 = .ok (.ireturn, 1) := by decide +kernel
def fX11_fault (m : dM) (p0 : Nat) (p1 : Int32) (p2 : Int32) : Option ((Nat × dM) ⊕ (Int32 × dM)) := dg (dkg p0 12) ((fX11_needPart m p0 p1).bind (fun q => dS q (fun x => some (.inl x)) (fun m2 => (fX11_needRange m2 p2 0 3).bind (fun q => dS q (fun x => some (.inl x)) (fun m6 => (fX8_numbered m6 47 p1).bind (fun v10 => dg (dkg v10 6) ((fX10_look m6 171 v10 1).bind (fun q => dP2 q (fun v14 m13 => dg (dkg v14 3) ((fX2_said m13 v14 p2).bind (fun v17 => some (.inr (v17, m13)))))))))))))
set_option maxHeartbeats 4000000 in
set_option maxRecDepth 100000 in
theorem kX11_fault (l : Launch) (g : dG) (hst : l.stackTraces = false) {m : dM} {p0 : Nat} {p1 : Int32} {p2 : Int32} {o : ((Nat × dM) ⊕ (Int32 × dM))} (h : fX11_fault m p0 p1 p2 = some o) : dXMet l g yX11_fault wsX11_fault 8 146 2 [.ref (dad g p0), .int p1, .int p2] m o (dXI g o) := by
  refine dxof (cc := cX11_fault) (maxL := 3) (ret := (some .int)) _ (by decide) rfl (Nat.le_of_ble_eq_true rfl) ?_
  intro p e s mth below meth c S hr hlk hnt hE H ls hP hS hl
  have S : CallFix p mth c cX11_fault 3 s _ wsX11_fault RX11 := S
  have hl : lv_has ls 3 [(0, .ref (dad g p0)), (1, .int p1), (2, .int p2)] := hl
  obtain ⟨locs, hlocs⟩ : ∃ z : List Loc, z = [] := ⟨_, rfl⟩
  rw [← hlocs] at hS ⊢
  have in11 : ∀ w ∈ wsX110, w ∈ wsX11_fault := by decide +kernel
  unfold fX11_fault at h
  obtain ⟨k0, h⟩ := d_g h
  have k0 := d_k k0
  refine lv_aload_n S.1 S.2.1 dX11_fault_0 rfl (lv_at hl 0 rfl) ?_
  refine lv_iload_n S.1 S.2.1 dX11_fault_1 rfl (lv_at hl 1 rfl) ?_
  obtain ⟨q3, hc1, h⟩ := d_b h
  refine dxrv (o := q3) (vx_runV (As := [.int p1]) (rest := []) S (kX11_needPart l g hst hc1) (cwV 1 S.2.2.2.2 gX11_fault_X11_needPart rfl rfl rfl ynX11_needPart ⟨Nat.le_of_ble_eq_true rfl, Nat.le_of_ble_eq_true rfl⟩) (dpV hE hP hS (ci := 11) rfl (dat12 k0)) rfl rfl hl.1 rfl (lv_room (Nat.le_of_ble_eq_true rfl)) dX11_fault_2 ⟨Nat.le_of_ble_eq_true rfl, Nat.le_of_ble_eq_true rfl⟩) hS (fun u4 q9 ce H locs eo hP hS h1 h2 h3 => ?_) (fun m2 H locs eo hP hS => ?_)
  · subst eo
    have h := d_s1 h
    obtain rfl := Option.some.inj h
    exact dxout rfl hnt hlk hP hS h1 h2 h3 (Nat.le_of_ble_eq_true rfl) (Nat.le_of_ble_eq_true rfl)
  · subst eo
    have h := d_s2 h
    refine lv_iload_n S.1 S.2.1 dX11_fault_5 rfl (lv_at hl 2 rfl) ?_
    refine lv_iconst (v := 0) S.1 S.2.1 dX11_fault_6 (by decide) ?_
    refine lv_iconst (v := 3) S.1 S.2.1 dX11_fault_7 (by decide) ?_
    obtain ⟨q7, hc5, h⟩ := d_b h
    refine dxrv (o := q7) (vx_runS (As := [.int p2, .int 0, .int 3]) (rest := []) S (kX11_needRange l g hst hc5) (va_cwS 3 S.2.2.2.2 gX11_fault_X11_needRange rfl rfl rfl ynX11_needRange ⟨Nat.le_of_ble_eq_true rfl, Nat.le_of_ble_eq_true rfl⟩) (dpS hE hP hS) rfl rfl hl.1 rfl (lv_room (Nat.le_of_ble_eq_true rfl)) dX11_fault_8 ⟨Nat.le_of_ble_eq_true rfl, Nat.le_of_ble_eq_true rfl⟩) hS (fun u8 q9 ce H locs eo hP hS h1 h2 h3 => ?_) (fun m6 H locs eo hP hS => ?_)
    · subst eo
      have h := d_s1 h
      obtain rfl := Option.some.inj h
      exact dxout rfl hnt hlk hP hS h1 h2 h3 (Nat.le_of_ble_eq_true rfl) (Nat.le_of_ble_eq_true rfl)
    · subst eo
      have h := d_s2 h
      refine lv_aload_n S.1 S.2.1 dX11_fault_11 rfl (lv_at hl 0 rfl) ?_
      refine dgf11_3 S in11 hE hP k0 (S.2.2.2.2 (.fieldLink RX11 33 "DrillField" "watch" "LDrillField$Watch;") (List.mem_of_getElem? (i := 1) rfl)) dX11_fault_12 ?_
      refine lv_aload_n S.1 S.2.1 dX11_fault_15 rfl (lv_at hl 0 rfl) ?_
      refine dgf11_2 S in11 hE hP k0 (S.2.2.2.2 (.fieldLink RX11 26 "DrillField" "show" "LDrillField$Show;") (List.mem_of_getElem? (i := 2) rfl)) dX11_fault_16 ?_
      refine lv_iload_n S.1 S.2.1 dX11_fault_19 rfl (lv_at hl 1 rfl) ?_
      obtain ⟨v10, hc9, h⟩ := d_b h
      obtain ⟨hk11, h⟩ := d_g h
      have hk11 := d_k hk11
      refine drr (va_runV (As := [.int p1]) (rest := [.ref (dad g 171)]) S (kX8_numbered l g hc9) (cwV 1 S.2.2.2.2 gX11_fault_X8_numbered rfl rfl rfl ynX8_numbered ⟨Nat.le_of_ble_eq_true rfl, Nat.le_of_ble_eq_true rfl⟩) (dpV hE hP hS (ci := 8) rfl (dat9 dk_47)) rfl rfl hl.1 rfl (lv_room (Nat.le_of_ble_eq_true rfl)) dX11_fault_20 ⟨Nat.le_of_ble_eq_true rfl, Nat.le_of_ble_eq_true rfl⟩) hS (fun H locs hP hS => ?_)
      refine lv_aload_n S.1 S.2.1 dX11_fault_23 rfl (lv_at hl 0 rfl) ?_
      refine dgf11_0 S in11 hE hP k0 (S.2.2.2.2 (.fieldLink RX11 10 "DrillField" "dots" "LDrillField$Dots;") (List.mem_of_getElem? (i := 3) rfl)) dX11_fault_24 ?_
      obtain ⟨⟨v14, m13⟩, hc12, h⟩ := d_b h
      have h := d_p2 h
      obtain ⟨hk15, h⟩ := d_g h
      have hk15 := d_k hk15
      refine drr (va_runV (As := [.ref (dad g v10), .ref (dad g 1)]) (rest := []) S (kX10_look l g hc12) (cwV 2 S.2.2.2.2 gX11_fault_X10_look rfl rfl rfl ynX10_look ⟨Nat.le_of_ble_eq_true rfl, Nat.le_of_ble_eq_true rfl⟩) (dpV hE hP hS (ci := 10) rfl (dat11 dk_171)) rfl rfl hl.1 rfl (lv_room (Nat.le_of_ble_eq_true rfl)) dX11_fault_27 ⟨Nat.le_of_ble_eq_true rfl, Nat.le_of_ble_eq_true rfl⟩) hS (fun H locs hP hS => ?_)
      refine lv_iload_n S.1 S.2.1 dX11_fault_30 rfl (lv_at hl 2 rfl) ?_
      obtain ⟨v17, hc16, h⟩ := d_b h
      refine dri (va_runV (As := [.int p2]) (rest := []) S (kX2_said l g hc16) (cwV 1 S.2.2.2.2 gX11_fault_X2_said rfl rfl rfl ynX2_said ⟨Nat.le_of_ble_eq_true rfl, Nat.le_of_ble_eq_true rfl⟩) (dpV hE hP hS (ci := 2) rfl (dat3 hk15)) rfl rfl hl.1 rfl (lv_room (Nat.le_of_ble_eq_true rfl)) dX11_fault_31 ⟨Nat.le_of_ble_eq_true rfl, Nat.le_of_ble_eq_true rfl⟩) hS (fun H locs hP hS => ?_)
      obtain rfl := Option.some.inj h
      exact dxti rfl S hr hlk hE hP hS rfl (Nat.le_of_ble_eq_true rfl) (Nat.le_of_ble_eq_true rfl) dX11_fault_34
set_option maxRecDepth 20000 in
theorem ggX11_ill_X11_needDot : GoodIn wsX11_ill wsX11_needDot := goodIn_ca (goodIn_r _ [6, 1, 7, 8, 9, 10, 11, 12, 13, 14, 5, 15, 16, 17, 18, 19, 20, 34, 35, 36, 37, 38, 39, 40, 41, 42, 43, 44, 45, 46] (by decide +kernel) (by decide +kernel)) (goodIn_sub (fun _ h => List.mem_cons_of_mem _ (List.mem_append_right _ h)) (by decide +kernel))
set_option maxRecDepth 20000 in
theorem gX11_ill_X11_needDot : GoodIn wsX11_ill (wsV RX11 84 RX11 yX11_needDot wsX11_needDot) := goodIn_app (goodIn_of _ (by decide +kernel)) ggX11_ill_X11_needDot
set_option maxRecDepth 20000 in
theorem ggX11_ill_X1_letBeIll : GoodIn wsX11_ill wsX1_letBeIll := goodIn_r _ [24, 25, 26, 5, 27, 42, 43, 44, 45, 46] (by decide +kernel) (by decide +kernel)
set_option maxRecDepth 20000 in
theorem gX11_ill_X1_letBeIll : GoodIn wsX11_ill (wsV RX11 95 RX1 yX1_letBeIll wsX1_letBeIll) := goodIn_app (goodIn_of _ (by decide +kernel)) ggX11_ill_X1_letBeIll
set_option maxRecDepth 20000 in
theorem ggX11_ill_X1_marches : GoodIn wsX11_ill wsX1_marches := goodIn_r _ [31, 25, 32, 33, 26, 5, 27, 42, 43, 44, 45, 46] (by decide +kernel) (by decide +kernel)
set_option maxRecDepth 20000 in
theorem gX11_ill_X1_marches : GoodIn wsX11_ill (wsV RX11 99 RX1 yX1_marches wsX1_marches) := goodIn_app (goodIn_of _ (by decide +kernel)) ggX11_ill_X1_marches
theorem dX11_ill_0 : decode cX11_ill 0 = .ok (.aload_n 0, 1) := by decide +kernel
theorem dX11_ill_1 : decode cX11_ill 1 = .ok (.iload_n 1, 1) := by decide +kernel
theorem dX11_ill_2 : decode cX11_ill 2 = .ok (.invokevirtual 84, 3) := by decide +kernel
theorem dX11_ill_5 : decode cX11_ill 5 = .ok (.aload_n 0, 1) := by decide +kernel
theorem dX11_ill_6 : decode cX11_ill 6 = .ok (.getfield 10, 3) := by decide +kernel
theorem dX11_ill_9 : decode cX11_ill 9 = .ok (.iload_n 1, 1) := by decide +kernel
theorem dX11_ill_10 : decode cX11_ill 10 = .ok (.iload_n 2, 1) := by decide +kernel
theorem dX11_ill_11 : decode cX11_ill 11 = .ok (.invokevirtual 95, 3) := by decide +kernel
theorem dX11_ill_14 : decode cX11_ill 14 = .ok (.aload_n 0, 1) := by decide +kernel
theorem dX11_ill_15 : decode cX11_ill 15 = .ok (.getfield 10, 3) := by decide +kernel
theorem dX11_ill_18 : decode cX11_ill 18 = .ok (.iload_n 1, 1) := by decide +kernel
theorem dX11_ill_19 : decode cX11_ill 19 = .ok (.invokevirtual 99, 3) := by decide +kernel
theorem dX11_ill_22 : decode cX11_ill 22 = .ok (.ireturn, 1) := by decide +kernel
def fX11_ill (m : dM) (p0 : Nat) (p1 : Int32) (p2 : Int32) : Option ((Nat × dM) ⊕ (Int32 × dM)) := dg (dkg p0 12) ((fX11_needDot m p0 p1).bind (fun q => dS q (fun x => some (.inl x)) (fun m2 => (fX1_letBeIll m2 1 p1 p2).bind (fun m6 => (fX1_marches m6 1 p1).bind (fun v8 => dg (dB v8) (some (.inr (v8, m6))))))))
set_option maxHeartbeats 4000000 in
set_option maxRecDepth 100000 in
theorem kX11_ill (l : Launch) (g : dG) (hst : l.stackTraces = false) {m : dM} {p0 : Nat} {p1 : Int32} {p2 : Int32} {o : ((Nat × dM) ⊕ (Int32 × dM))} (h : fX11_ill m p0 p1 p2 = some o) : dXMet l g yX11_ill wsX11_ill 8 132 1 [.ref (dad g p0), .int p1, .int p2] m o (dXI g o) := by
  refine dxof (cc := cX11_ill) (maxL := 3) (ret := (some .boolean)) _ (by decide) rfl (Nat.le_of_ble_eq_true rfl) ?_
  intro p e s mth below meth c S hr hlk hnt hE H ls hP hS hl
  have S : CallFix p mth c cX11_ill 3 s _ wsX11_ill RX11 := S
  have hl : lv_has ls 3 [(0, .ref (dad g p0)), (1, .int p1), (2, .int p2)] := hl
  obtain ⟨locs, hlocs⟩ : ∃ z : List Loc, z = [] := ⟨_, rfl⟩
  rw [← hlocs] at hS ⊢
  have in11 : ∀ w ∈ wsX110, w ∈ wsX11_ill := by decide +kernel
  unfold fX11_ill at h
  obtain ⟨k0, h⟩ := d_g h
  have k0 := d_k k0
  refine lv_aload_n S.1 S.2.1 dX11_ill_0 rfl (lv_at hl 0 rfl) ?_
  refine lv_iload_n S.1 S.2.1 dX11_ill_1 rfl (lv_at hl 1 rfl) ?_
  obtain ⟨q3, hc1, h⟩ := d_b h
  refine dxrv (o := q3) (vx_runV (As := [.int p1]) (rest := []) S (kX11_needDot l g hst hc1) (cwV 1 S.2.2.2.2 gX11_ill_X11_needDot rfl rfl rfl ynX11_needDot ⟨Nat.le_of_ble_eq_true rfl, Nat.le_of_ble_eq_true rfl⟩) (dpV hE hP hS (ci := 11) rfl (dat12 k0)) rfl rfl hl.1 rfl (lv_room (Nat.le_of_ble_eq_true rfl)) dX11_ill_2 ⟨Nat.le_of_ble_eq_true rfl, Nat.le_of_ble_eq_true rfl⟩) hS (fun u4 q9 ce H locs eo hP hS h1 h2 h3 => ?_) (fun m2 H locs eo hP hS => ?_)
  · subst eo
    have h := d_s1 h
    obtain rfl := Option.some.inj h
    exact dxout rfl hnt hlk hP hS h1 h2 h3 (Nat.le_of_ble_eq_true rfl) (Nat.le_of_ble_eq_true rfl)
  · subst eo
    have h := d_s2 h
    refine lv_aload_n S.1 S.2.1 dX11_ill_5 rfl (lv_at hl 0 rfl) ?_
    refine dgf11_0 S in11 hE hP k0 (S.2.2.2.2 (.fieldLink RX11 10 "DrillField" "dots" "LDrillField$Dots;") (List.mem_of_getElem? (i := 1) rfl)) dX11_ill_6 ?_
    refine lv_iload_n S.1 S.2.1 dX11_ill_9 rfl (lv_at hl 1 rfl) ?_
    refine lv_iload_n S.1 S.2.1 dX11_ill_10 rfl (lv_at hl 2 rfl) ?_
    obtain ⟨m6, hc5, h⟩ := d_b h
    refine drv (va_runV (As := [.int p1, .int p2]) (rest := []) S (kX1_letBeIll l g hc5) (cwV 2 S.2.2.2.2 gX11_ill_X1_letBeIll rfl rfl rfl ynX1_letBeIll ⟨Nat.le_of_ble_eq_true rfl, Nat.le_of_ble_eq_true rfl⟩) (dpV hE hP hS (ci := 1) rfl (dat2 dk_1)) rfl rfl hl.1 rfl (lv_room (Nat.le_of_ble_eq_true rfl)) dX11_ill_11 ⟨Nat.le_of_ble_eq_true rfl, Nat.le_of_ble_eq_true rfl⟩) hS (fun H locs hP hS => ?_)
    refine lv_aload_n S.1 S.2.1 dX11_ill_14 rfl (lv_at hl 0 rfl) ?_
    refine dgf11_0 S in11 hE hP k0 (S.2.2.2.2 (.fieldLink RX11 10 "DrillField" "dots" "LDrillField$Dots;") (List.mem_of_getElem? (i := 1) rfl)) dX11_ill_15 ?_
    refine lv_iload_n S.1 S.2.1 dX11_ill_18 rfl (lv_at hl 1 rfl) ?_
    obtain ⟨v8, hc7, h⟩ := d_b h
    refine dri (va_runV (As := [.int p1]) (rest := []) S (kX1_marches l g hc7) (cwV 1 S.2.2.2.2 gX11_ill_X1_marches rfl rfl rfl ynX1_marches ⟨Nat.le_of_ble_eq_true rfl, Nat.le_of_ble_eq_true rfl⟩) (dpV hE hP hS (ci := 1) rfl (dat2 dk_1)) rfl rfl hl.1 rfl (lv_room (Nat.le_of_ble_eq_true rfl)) dX11_ill_19 ⟨Nat.le_of_ble_eq_true rfl, Nat.le_of_ble_eq_true rfl⟩) hS (fun H locs hP hS => ?_)
    obtain ⟨hb, h⟩ := d_g h
    obtain rfl := Option.some.inj h
    exact dxti rfl S hr hlk hE hP hS (dB_nar2 hb) (Nat.le_of_ble_eq_true rfl) (Nat.le_of_ble_eq_true rfl) dX11_ill_22
set_option maxRecDepth 20000 in
theorem ggX11_judge_X11_needIndex : GoodIn wsX11_judge wsX11_needIndex := goodIn_ca (goodIn_r _ [6, 7, 8, 9, 10, 5, 11] (by decide +kernel) (by decide +kernel)) (goodIn_sub (fun _ h => List.mem_cons_of_mem _ (List.mem_append_left _ (List.mem_append_right _ h))) (by decide +kernel))
set_option maxRecDepth 20000 in
theorem gX11_judge_X11_needIndex : GoodIn wsX11_judge (va_wsS RX11 103 yX11_needIndex wsX11_needIndex) := goodIn_app (goodIn_of _ (by decide +kernel)) ggX11_judge_X11_needIndex
set_option maxRecDepth 20000 in
theorem ggX11_judge_X11_needRange : GoodIn wsX11_judge wsX11_needRange := goodIn_ca (goodIn_r _ [14, 15, 16, 9, 10, 5, 11] (by decide +kernel) (by decide +kernel)) (goodIn_sub (fun _ h => List.mem_cons_of_mem _ (List.mem_append_right _ h)) (by decide +kernel))
set_option maxRecDepth 20000 in
theorem gX11_judge_X11_needRange : GoodIn wsX11_judge (va_wsS RX11 65 yX11_needRange wsX11_needRange) := goodIn_app (goodIn_of _ (by decide +kernel)) ggX11_judge_X11_needRange
set_option maxRecDepth 20000 in
theorem ggX11_judge_X0_tellCaption : GoodIn wsX11_judge wsX0_tellCaption := goodIn_r _ [21, 22, 10, 5, 11, 71, 72, 73, 74] (by decide +kernel) (by decide +kernel)
set_option maxRecDepth 20000 in
theorem gX11_judge_X0_tellCaption : GoodIn wsX11_judge (wsV RX11 247 RX0 yX0_tellCaption wsX0_tellCaption) := goodIn_app (goodIn_of _ (by decide +kernel)) ggX11_judge_X0_tellCaption
set_option maxRecDepth 20000 in
theorem ggX11_judge_X8_tenthsOfSeconds : GoodIn wsX11_judge wsX8_tenthsOfSeconds := goodIn_r _ [27, 28, 29, 30, 31, 26, 32, 33, 34, 10, 5, 11, 35, 36, 37, 38, 39, 40, 41, 42, 43, 44, 45, 46, 47, 75, 76, 77, 78, 79, 80, 81, 82, 83, 84, 85] (by decide +kernel) (by decide +kernel)
set_option maxRecDepth 20000 in
theorem gX11_judge_X8_tenthsOfSeconds : GoodIn wsX11_judge (wsV RX11 241 RX8 yX8_tenthsOfSeconds wsX8_tenthsOfSeconds) := goodIn_app (goodIn_of _ (by decide +kernel)) ggX11_judge_X8_tenthsOfSeconds
set_option maxRecDepth 20000 in
theorem ggX11_judge_X0_points : GoodIn wsX11_judge wsX0_points := goodIn_r _ [51, 22, 52, 53, 54, 55, 56, 10, 5, 11, 57, 58, 59, 20, 60, 61, 62, 42, 43, 44, 45, 46, 47, 71, 72, 73, 74] (by decide +kernel) (by decide +kernel)
set_option maxRecDepth 20000 in
theorem gX11_judge_X0_points : GoodIn wsX11_judge (wsV RX11 250 RX0 yX0_points wsX0_points) := goodIn_app (goodIn_of _ (by decide +kernel)) ggX11_judge_X0_points
theorem dX11_judge_0 : decode cX11_judge 0 = .ok (.iload_n 1, 1) := by decide +kernel
theorem dX11_judge_1 : decode cX11_judge 1 = .ok (.bipush 6, 2) := by decide +kernel
theorem dX11_judge_3 : decode cX11_judge 3 = .ok (.invokestatic 103, 3) := by decide +kernel
theorem dX11_judge_6 : decode cX11_judge 6 = .ok (.iload_n 2, 1) := by decide +kernel
theorem dX11_judge_7 : decode cX11_judge 7 = .ok (.iconst 4, 1) := by decide +kernel
theorem dX11_judge_8 : decode cX11_judge 8 = .ok (.invokestatic 103, 3) := by decide +kernel
theorem dX11_judge_11 : decode cX11_judge 11 = .ok (.iload_n 3, 1) := by decide +kernel
theorem dX11_judge_12 : decode cX11_judge 12 = .ok (.iconst 0, 1) := by decide +kernel
theorem dX11_judge_13 : decode cX11_judge 13 = .ok (.sipush 1000, 3) := by decide +kernel
theorem dX11_judge_16 : decode cX11_judge 16 = .ok (.invokestatic 65, 3) := by decide +kernel
theorem dX11_judge_19 : decode cX11_judge 19 = .ok (.aload_n 0, 1) := by decide +kernel
theorem dX11_judge_20 : decode cX11_judge 20 = .ok (.getfield 61, 3) := by decide +kernel
theorem dX11_judge_23 : decode cX11_judge 23 = .ok (.iload_n 1, 1) := by decide +kernel
theorem dX11_judge_24 : decode cX11_judge 24 = .ok (.iload_n 2, 1) := by decide +kernel
theorem dX11_judge_25 : decode cX11_judge 25 = .ok (.iload_n 3, 1) := by decide +kernel
theorem dX11_judge_26 : decode cX11_judge 26 = .ok (.invokevirtual 247, 3) := by decide +kernel
theorem dX11_judge_29 : decode cX11_judge 29 = .ok (.aload_n 0, 1) := by decide +kernel
theorem dX11_judge_30 : decode cX11_judge 30 = .ok (.getfield 61, 3) := by decide +kernel
theorem dX11_judge_33 : decode cX11_judge 33 = .ok (.iload_n 1, 1) := by decide +kernel
theorem dX11_judge_34 : decode cX11_judge 34 = .ok (.aload_n 0, 1) := by decide +kernel
theorem dX11_judge_35 : decode cX11_judge 35 = .ok (.getfield 26, 3) := by decide +kernel
theorem dX11_judge_38 : decode cX11_judge 38 = .ok (.invokevirtual 241, 3) := by decide +kernel
theorem dX11_judge_41 : decode cX11_judge 41 = .ok (.invokevirtual 250, 3) := by decide +kernel
theorem dX11_judge_44 : decode cX11_judge 44 = .ok (.ireturn, 1) := by decide +kernel
def fX11_judge (m : dM) (p0 : Nat) (p1 : Int32) (p2 : Int32) (p3 : Int32) : Option ((Nat × dM) ⊕ (Int32 × dM)) := dg (dkg p0 12) ((fX11_needIndex m p1 6).bind (fun q => dS q (fun x => some (.inl x)) (fun m2 => (fX11_needIndex m2 p2 4).bind (fun q => dS q (fun x => some (.inl x)) (fun m6 => (fX11_needRange m6 p3 0 1000).bind (fun q => dS q (fun x => some (.inl x)) (fun m10 => (fX0_tellCaption m10 435 p1 p2 p3).bind (fun m14 => (fX8_tenthsOfSeconds m14 47).bind (fun v16 => (fX0_points m14 435 p1 v16).bind (fun v18 => some (.inr (v18, m14))))))))))))
set_option maxHeartbeats 4000000 in
set_option maxRecDepth 100000 in
theorem kX11_judge (l : Launch) (g : dG) (hst : l.stackTraces = false) {m : dM} {p0 : Nat} {p1 : Int32} {p2 : Int32} {p3 : Int32} {o : ((Nat × dM) ⊕ (Int32 × dM))} (h : fX11_judge m p0 p1 p2 p3 = some o) : dXMet l g yX11_judge wsX11_judge 7 112 3 [.ref (dad g p0), .int p1, .int p2, .int p3] m o (dXI g o) := by
  refine dxof (cc := cX11_judge) (maxL := 4) (ret := (some .int)) _ (by decide) rfl (Nat.le_of_ble_eq_true rfl) ?_
  intro p e s mth below meth c S hr hlk hnt hE H ls hP hS hl
  have S : CallFix p mth c cX11_judge 4 s _ wsX11_judge RX11 := S
  have hl : lv_has ls 4 [(0, .ref (dad g p0)), (1, .int p1), (2, .int p2), (3, .int p3)] := hl
  obtain ⟨locs, hlocs⟩ : ∃ z : List Loc, z = [] := ⟨_, rfl⟩
  rw [← hlocs] at hS ⊢
  have in11 : ∀ w ∈ wsX110, w ∈ wsX11_judge := by decide +kernel
  unfold fX11_judge at h
  obtain ⟨k0, h⟩ := d_g h
  have k0 := d_k k0
  refine lv_iload_n S.1 S.2.1 dX11_judge_0 rfl (lv_at hl 1 rfl) ?_
  refine lv_bipush (v := 6) S.1 S.2.1 dX11_judge_1 (by decide) ?_
  obtain ⟨q3, hc1, h⟩ := d_b h
  refine dxrv (o := q3) (vx_runS (As := [.int p1, .int 6]) (rest := []) S (kX11_needIndex l g hst hc1) (va_cwS 2 S.2.2.2.2 gX11_judge_X11_needIndex rfl rfl rfl ynX11_needIndex ⟨Nat.le_of_ble_eq_true rfl, Nat.le_of_ble_eq_true rfl⟩) (dpS hE hP hS) rfl rfl hl.1 rfl (lv_room (Nat.le_of_ble_eq_true rfl)) dX11_judge_3 ⟨Nat.le_of_ble_eq_true rfl, Nat.le_of_ble_eq_true rfl⟩) hS (fun u4 q9 ce H locs eo hP hS h1 h2 h3 => ?_) (fun m2 H locs eo hP hS => ?_)
  · subst eo
    have h := d_s1 h
    obtain rfl := Option.some.inj h
    exact dxout rfl hnt hlk hP hS h1 h2 h3 (Nat.le_of_ble_eq_true rfl) (Nat.le_of_ble_eq_true rfl)
  · subst eo
    have h := d_s2 h
    refine lv_iload_n S.1 S.2.1 dX11_judge_6 rfl (lv_at hl 2 rfl) ?_
    refine lv_iconst (v := 4) S.1 S.2.1 dX11_judge_7 (by decide) ?_
    obtain ⟨q7, hc5, h⟩ := d_b h
    refine dxrv (o := q7) (vx_runS (As := [.int p2, .int 4]) (rest := []) S (kX11_needIndex l g hst hc5) (va_cwS 2 S.2.2.2.2 gX11_judge_X11_needIndex rfl rfl rfl ynX11_needIndex ⟨Nat.le_of_ble_eq_true rfl, Nat.le_of_ble_eq_true rfl⟩) (dpS hE hP hS) rfl rfl hl.1 rfl (lv_room (Nat.le_of_ble_eq_true rfl)) dX11_judge_8 ⟨Nat.le_of_ble_eq_true rfl, Nat.le_of_ble_eq_true rfl⟩) hS (fun u8 q9 ce H locs eo hP hS h1 h2 h3 => ?_) (fun m6 H locs eo hP hS => ?_)
    · subst eo
      have h := d_s1 h
      obtain rfl := Option.some.inj h
      exact dxout rfl hnt hlk hP hS h1 h2 h3 (Nat.le_of_ble_eq_true rfl) (Nat.le_of_ble_eq_true rfl)
    · subst eo
      have h := d_s2 h
      refine lv_iload_n S.1 S.2.1 dX11_judge_11 rfl (lv_at hl 3 rfl) ?_
      refine lv_iconst (v := 0) S.1 S.2.1 dX11_judge_12 (by decide) ?_
      refine lv_sipush (v := 1000) S.1 S.2.1 dX11_judge_13 (by decide) ?_
      obtain ⟨q11, hc9, h⟩ := d_b h
      refine dxrv (o := q11) (vx_runS (As := [.int p3, .int 0, .int 1000]) (rest := []) S (kX11_needRange l g hst hc9) (va_cwS 3 S.2.2.2.2 gX11_judge_X11_needRange rfl rfl rfl ynX11_needRange ⟨Nat.le_of_ble_eq_true rfl, Nat.le_of_ble_eq_true rfl⟩) (dpS hE hP hS) rfl rfl hl.1 rfl (lv_room (Nat.le_of_ble_eq_true rfl)) dX11_judge_16 ⟨Nat.le_of_ble_eq_true rfl, Nat.le_of_ble_eq_true rfl⟩) hS (fun u12 q9 ce H locs eo hP hS h1 h2 h3 => ?_) (fun m10 H locs eo hP hS => ?_)
      · subst eo
        have h := d_s1 h
        obtain rfl := Option.some.inj h
        exact dxout rfl hnt hlk hP hS h1 h2 h3 (Nat.le_of_ble_eq_true rfl) (Nat.le_of_ble_eq_true rfl)
      · subst eo
        have h := d_s2 h
        refine lv_aload_n S.1 S.2.1 dX11_judge_19 rfl (lv_at hl 0 rfl) ?_
        refine dgf11_7 S in11 hE hP k0 (S.2.2.2.2 (.fieldLink RX11 61 "DrillField" "contest" "LDrillField$Contest;") (List.mem_of_getElem? (i := 1) rfl)) dX11_judge_20 ?_
        refine lv_iload_n S.1 S.2.1 dX11_judge_23 rfl (lv_at hl 1 rfl) ?_
        refine lv_iload_n S.1 S.2.1 dX11_judge_24 rfl (lv_at hl 2 rfl) ?_
        refine lv_iload_n S.1 S.2.1 dX11_judge_25 rfl (lv_at hl 3 rfl) ?_
        obtain ⟨m14, hc13, h⟩ := d_b h
        refine drv (va_runV (As := [.int p1, .int p2, .int p3]) (rest := []) S (kX0_tellCaption l g hc13) (cwV 3 S.2.2.2.2 gX11_judge_X0_tellCaption rfl rfl rfl ynX0_tellCaption ⟨Nat.le_of_ble_eq_true rfl, Nat.le_of_ble_eq_true rfl⟩) (dpV hE hP hS (ci := 0) rfl (dat1 dk_435)) rfl rfl hl.1 rfl (lv_room (Nat.le_of_ble_eq_true rfl)) dX11_judge_26 ⟨Nat.le_of_ble_eq_true rfl, Nat.le_of_ble_eq_true rfl⟩) hS (fun H locs hP hS => ?_)
        refine lv_aload_n S.1 S.2.1 dX11_judge_29 rfl (lv_at hl 0 rfl) ?_
        refine dgf11_7 S in11 hE hP k0 (S.2.2.2.2 (.fieldLink RX11 61 "DrillField" "contest" "LDrillField$Contest;") (List.mem_of_getElem? (i := 1) rfl)) dX11_judge_30 ?_
        refine lv_iload_n S.1 S.2.1 dX11_judge_33 rfl (lv_at hl 1 rfl) ?_
        refine lv_aload_n S.1 S.2.1 dX11_judge_34 rfl (lv_at hl 0 rfl) ?_
        refine dgf11_2 S in11 hE hP k0 (S.2.2.2.2 (.fieldLink RX11 26 "DrillField" "show" "LDrillField$Show;") (List.mem_of_getElem? (i := 2) rfl)) dX11_judge_35 ?_
        obtain ⟨v16, hc15, h⟩ := d_b h
        refine dri (va_runV (As := []) (rest := [.int p1, .ref (dad g 435)]) S (kX8_tenthsOfSeconds l g hc15) (cwV 0 S.2.2.2.2 gX11_judge_X8_tenthsOfSeconds rfl rfl rfl ynX8_tenthsOfSeconds ⟨Nat.le_of_ble_eq_true rfl, Nat.le_of_ble_eq_true rfl⟩) (dpV hE hP hS (ci := 8) rfl (dat9 dk_47)) rfl rfl hl.1 rfl (lv_room (Nat.le_of_ble_eq_true rfl)) dX11_judge_38 ⟨Nat.le_of_ble_eq_true rfl, Nat.le_of_ble_eq_true rfl⟩) hS (fun H locs hP hS => ?_)
        obtain ⟨v18, hc17, h⟩ := d_b h
        refine dri (va_runV (As := [.int p1, .int v16]) (rest := []) S (kX0_points l g hc17) (cwV 2 S.2.2.2.2 gX11_judge_X0_points rfl rfl rfl ynX0_points ⟨Nat.le_of_ble_eq_true rfl, Nat.le_of_ble_eq_true rfl⟩) (dpV hE hP hS (ci := 0) rfl (dat1 dk_435)) rfl rfl hl.1 rfl (lv_room (Nat.le_of_ble_eq_true rfl)) dX11_judge_41 ⟨Nat.le_of_ble_eq_true rfl, Nat.le_of_ble_eq_true rfl⟩) hS (fun H locs hP hS => ?_)
        obtain rfl := Option.some.inj h
        exact dxti rfl S hr hlk hE hP hS rfl (Nat.le_of_ble_eq_true rfl) (Nat.le_of_ble_eq_true rfl) dX11_judge_44
set_option maxRecDepth 20000 in
theorem ggX11_legs_X11_needDot : GoodIn wsX11_legs wsX11_needDot := goodIn_ca (goodIn_r _ [6, 1, 7, 8, 9, 10, 11, 12, 13, 14, 5, 15, 16, 17, 18, 19, 20, 37, 38, 39, 40, 41, 42, 43, 44, 45, 46, 47, 48, 49] (by decide +kernel) (by decide +kernel)) (goodIn_sub (fun _ h => List.mem_cons_of_mem _ (List.mem_append_left _ (List.mem_append_right _ h))) (by decide +kernel))
set_option maxRecDepth 20000 in
theorem gX11_legs_X11_needDot : GoodIn wsX11_legs (wsV RX11 84 RX11 yX11_needDot wsX11_needDot) := goodIn_app (goodIn_of _ (by decide +kernel)) ggX11_legs_X11_needDot
set_option maxRecDepth 20000 in
theorem ggX11_legs_X11_needRange : GoodIn wsX11_legs wsX11_needRange := goodIn_ca (goodIn_r _ [23, 24, 25, 18, 19, 5, 20] (by decide +kernel) (by decide +kernel)) (goodIn_sub (fun _ h => List.mem_cons_of_mem _ (List.mem_append_right _ h)) (by decide +kernel))
set_option maxRecDepth 20000 in
theorem gX11_legs_X11_needRange : GoodIn wsX11_legs (va_wsS RX11 65 yX11_needRange wsX11_needRange) := goodIn_app (goodIn_of _ (by decide +kernel)) ggX11_legs_X11_needRange
set_option maxRecDepth 20000 in
theorem ggX11_legs_X1_legsOf : GoodIn wsX11_legs wsX1_legsOf := goodIn_r _ [29, 30, 31, 5, 32, 45, 46, 47, 48, 49] (by decide +kernel) (by decide +kernel)
set_option maxRecDepth 20000 in
theorem gX11_legs_X1_legsOf : GoodIn wsX11_legs (wsV RX11 87 RX1 yX1_legsOf wsX1_legsOf) := goodIn_app (goodIn_of _ (by decide +kernel)) ggX11_legs_X1_legsOf
set_option maxRecDepth 20000 in
theorem ggX11_legs_X1_giveLegs : GoodIn wsX11_legs wsX1_giveLegs := goodIn_r _ [36, 30, 31, 5, 32, 45, 46, 47, 48, 49] (by decide +kernel) (by decide +kernel)
set_option maxRecDepth 20000 in
theorem gX11_legs_X1_giveLegs : GoodIn wsX11_legs (wsV RX11 91 RX1 yX1_giveLegs wsX1_giveLegs) := goodIn_app (goodIn_of _ (by decide +kernel)) ggX11_legs_X1_giveLegs
theorem dX11_legs_0 : decode cX11_legs 0 = .ok (.aload_n 0, 1) := by decide +kernel
theorem dX11_legs_1 : decode cX11_legs 1 = .ok (.iload_n 1, 1) := by decide +kernel
theorem dX11_legs_2 : decode cX11_legs 2 = .ok (.invokevirtual 84, 3) := by decide +kernel
theorem dX11_legs_5 : decode cX11_legs 5 = .ok (.iload_n 2, 1) := by decide +kernel
theorem dX11_legs_6 : decode cX11_legs 6 = .ok (.iconst 5, 1) := by decide +kernel
theorem dX11_legs_7 : decode cX11_legs 7 = .ok (.bipush 40, 2) := by decide +kernel
theorem dX11_legs_9 : decode cX11_legs 9 = .ok (.invokestatic 65, 3) := by decide +kernel
theorem dX11_legs_12 : decode cX11_legs 12 = .ok (.aload_n 0, 1) := by decide +kernel
theorem dX11_legs_13 : decode cX11_legs 13 = .ok (.getfield 10, 3) := by decide +kernel
theorem dX11_legs_16 : decode cX11_legs 16 = .ok (.iload_n 1, 1) := by decide +kernel
theorem dX11_legs_17 : decode cX11_legs 17 = .ok (.invokevirtual 87, 3) := by decide +kernel
theorem dX11_legs_20 : decode cX11_legs 20 = .ok (.istore_n 3, 1) := by decide +kernel
theorem dX11_legs_21 : decode cX11_legs 21 = .ok (.aload_n 0, 1) := by decide +kernel
theorem dX11_legs_22 : decode cX11_legs 22 = .ok (.getfield 10, 3) := by decide +kernel
theorem dX11_legs_25 : decode cX11_legs 25 = .ok (.iload_n 1, 1) := by decide +kernel
theorem dX11_legs_26 : decode cX11_legs 26 = .ok (.iload_n 2, 1) := by decide +kernel
theorem dX11_legs_27 : decode cX11_legs 27 = .ok (.invokevirtual 91, 3) := by decide +kernel
theorem dX11_legs_30 : decode cX11_legs 30 = .ok (.iload_n 3, 1) := by decide +kernel
theorem dX11_legs_31 : decode cX11_legs 31 = .ok (.ireturn, 1) := by decide +kernel
def fX11_legs (m : dM) (p0 : Nat) (p1 : Int32) (p2 : Int32) : Option ((Nat × dM) ⊕ (Int32 × dM)) := dg (dkg p0 12) ((fX11_needDot m p0 p1).bind (fun q => dS q (fun x => some (.inl x)) (fun m2 => (fX11_needRange m2 p2 5 40).bind (fun q => dS q (fun x => some (.inl x)) (fun m6 => (fX1_legsOf m6 1 p1).bind (fun v10 => (fX1_giveLegs m6 1 p1 p2).bind (fun m12 => some (.inr (v10, m12)))))))))
set_option maxHeartbeats 4000000 in
set_option maxRecDepth 100000 in
theorem kX11_legs (l : Launch) (g : dG) (hst : l.stackTraces = false) {m : dM} {p0 : Nat} {p1 : Int32} {p2 : Int32} {o : ((Nat × dM) ⊕ (Int32 × dM))} (h : fX11_legs m p0 p1 p2 = some o) : dXMet l g yX11_legs wsX11_legs 8 132 2 [.ref (dad g p0), .int p1, .int p2] m o (dXI g o) := by
  refine dxof (cc := cX11_legs) (maxL := 4) (ret := (some .int)) _ (by decide) rfl (Nat.le_of_ble_eq_true rfl) ?_
  intro p e s mth below meth c S hr hlk hnt hE H ls hP hS hl
  have S : CallFix p mth c cX11_legs 4 s _ wsX11_legs RX11 := S
  have hl : lv_has ls 4 [(0, .ref (dad g p0)), (1, .int p1), (2, .int p2)] := hl
  obtain ⟨locs, hlocs⟩ : ∃ z : List Loc, z = [] := ⟨_, rfl⟩
  rw [← hlocs] at hS ⊢
  have in11 : ∀ w ∈ wsX110, w ∈ wsX11_legs := by decide +kernel
  unfold fX11_legs at h
  obtain ⟨k0, h⟩ := d_g h
  have k0 := d_k k0
  refine lv_aload_n S.1 S.2.1 dX11_legs_0 rfl (lv_at hl 0 rfl) ?_
  refine lv_iload_n S.1 S.2.1 dX11_legs_1 rfl (lv_at hl 1 rfl) ?_
  obtain ⟨q3, hc1, h⟩ := d_b h
  refine dxrv (o := q3) (vx_runV (As := [.int p1]) (rest := []) S (kX11_needDot l g hst hc1) (cwV 1 S.2.2.2.2 gX11_legs_X11_needDot rfl rfl rfl ynX11_needDot ⟨Nat.le_of_ble_eq_true rfl, Nat.le_of_ble_eq_true rfl⟩) (dpV hE hP hS (ci := 11) rfl (dat12 k0)) rfl rfl hl.1 rfl (lv_room (Nat.le_of_ble_eq_true rfl)) dX11_legs_2 ⟨Nat.le_of_ble_eq_true rfl, Nat.le_of_ble_eq_true rfl⟩) hS (fun u4 q9 ce H locs eo hP hS h1 h2 h3 => ?_) (fun m2 H locs eo hP hS => ?_)
  · subst eo
    have h := d_s1 h
    obtain rfl := Option.some.inj h
    exact dxout rfl hnt hlk hP hS h1 h2 h3 (Nat.le_of_ble_eq_true rfl) (Nat.le_of_ble_eq_true rfl)
  · subst eo
    have h := d_s2 h
    refine lv_iload_n S.1 S.2.1 dX11_legs_5 rfl (lv_at hl 2 rfl) ?_
    refine lv_iconst (v := 5) S.1 S.2.1 dX11_legs_6 (by decide) ?_
    refine lv_bipush (v := 40) S.1 S.2.1 dX11_legs_7 (by decide) ?_
    obtain ⟨q7, hc5, h⟩ := d_b h
    refine dxrv (o := q7) (vx_runS (As := [.int p2, .int 5, .int 40]) (rest := []) S (kX11_needRange l g hst hc5) (va_cwS 3 S.2.2.2.2 gX11_legs_X11_needRange rfl rfl rfl ynX11_needRange ⟨Nat.le_of_ble_eq_true rfl, Nat.le_of_ble_eq_true rfl⟩) (dpS hE hP hS) rfl rfl hl.1 rfl (lv_room (Nat.le_of_ble_eq_true rfl)) dX11_legs_9 ⟨Nat.le_of_ble_eq_true rfl, Nat.le_of_ble_eq_true rfl⟩) hS (fun u8 q9 ce H locs eo hP hS h1 h2 h3 => ?_) (fun m6 H locs eo hP hS => ?_)
    · subst eo
      have h := d_s1 h
      obtain rfl := Option.some.inj h
      exact dxout rfl hnt hlk hP hS h1 h2 h3 (Nat.le_of_ble_eq_true rfl) (Nat.le_of_ble_eq_true rfl)
    · subst eo
      have h := d_s2 h
      refine lv_aload_n S.1 S.2.1 dX11_legs_12 rfl (lv_at hl 0 rfl) ?_
      refine dgf11_0 S in11 hE hP k0 (S.2.2.2.2 (.fieldLink RX11 10 "DrillField" "dots" "LDrillField$Dots;") (List.mem_of_getElem? (i := 1) rfl)) dX11_legs_13 ?_
      refine lv_iload_n S.1 S.2.1 dX11_legs_16 rfl (lv_at hl 1 rfl) ?_
      obtain ⟨v10, hc9, h⟩ := d_b h
      refine dri (va_runV (As := [.int p1]) (rest := []) S (kX1_legsOf l g hc9) (cwV 1 S.2.2.2.2 gX11_legs_X1_legsOf rfl rfl rfl ynX1_legsOf ⟨Nat.le_of_ble_eq_true rfl, Nat.le_of_ble_eq_true rfl⟩) (dpV hE hP hS (ci := 1) rfl (dat2 dk_1)) rfl rfl hl.1 rfl (lv_room (Nat.le_of_ble_eq_true rfl)) dX11_legs_17 ⟨Nat.le_of_ble_eq_true rfl, Nat.le_of_ble_eq_true rfl⟩) hS (fun H locs hP hS => ?_)
      refine lv_istore_n (lv' := [(3, .int v10), (0, .ref (dad g p0)), (1, .int p1), (2, .int p2)]) S.1 S.2.1 dX11_legs_20 rfl hl (by decide) rfl (fun ls hl => ?_)
      refine lv_aload_n S.1 S.2.1 dX11_legs_21 rfl (lv_at hl 1 rfl) ?_
      refine dgf11_0 S in11 hE hP k0 (S.2.2.2.2 (.fieldLink RX11 10 "DrillField" "dots" "LDrillField$Dots;") (List.mem_of_getElem? (i := 1) rfl)) dX11_legs_22 ?_
      refine lv_iload_n S.1 S.2.1 dX11_legs_25 rfl (lv_at hl 2 rfl) ?_
      refine lv_iload_n S.1 S.2.1 dX11_legs_26 rfl (lv_at hl 3 rfl) ?_
      obtain ⟨m12, hc11, h⟩ := d_b h
      refine drv (va_runV (As := [.int p1, .int p2]) (rest := []) S (kX1_giveLegs l g hc11) (cwV 2 S.2.2.2.2 gX11_legs_X1_giveLegs rfl rfl rfl ynX1_giveLegs ⟨Nat.le_of_ble_eq_true rfl, Nat.le_of_ble_eq_true rfl⟩) (dpV hE hP hS (ci := 1) rfl (dat2 dk_1)) rfl rfl hl.1 rfl (lv_room (Nat.le_of_ble_eq_true rfl)) dX11_legs_27 ⟨Nat.le_of_ble_eq_true rfl, Nat.le_of_ble_eq_true rfl⟩) hS (fun H locs hP hS => ?_)
      refine lv_iload_n S.1 S.2.1 dX11_legs_30 rfl (lv_at hl 0 rfl) ?_
      obtain rfl := Option.some.inj h
      exact dxti rfl S hr hlk hE hP hS rfl (Nat.le_of_ble_eq_true rfl) (Nat.le_of_ble_eq_true rfl) dX11_legs_31
set_option maxRecDepth 20000 in
theorem ggX11_line_X11_isOnField : GoodIn wsX11_line wsX11_isOnField := goodIn_r _ [8, 9, 10, 7, 11] (by decide +kernel) (by decide +kernel)
set_option maxRecDepth 20000 in
theorem gX11_line_X11_isOnField : GoodIn wsX11_line (va_wsS RX11 110 yX11_isOnField wsX11_isOnField) := goodIn_app (goodIn_of _ (by decide +kernel)) ggX11_line_X11_isOnField
set_option maxRecDepth 20000 in
theorem ggX11_line_X1_number : GoodIn wsX11_line wsX1_number := goodIn_r _ [16, 17, 86, 87, 88, 89, 90] (by decide +kernel) (by decide +kernel)
set_option maxRecDepth 20000 in
theorem gX11_line_X1_number : GoodIn wsX11_line (wsV RX11 119 RX1 yX1_number wsX1_number) := goodIn_app (goodIn_of _ (by decide +kernel)) ggX11_line_X1_number
set_option maxRecDepth 20000 in
theorem ggX11_line_X7_draftLine : GoodIn wsX11_line wsX7_draftLine := goodIn_r _ [22, 23, 24, 7, 25, 26, 27, 28, 29, 30, 31, 32, 33, 34, 35, 36, 37, 38, 91, 92, 93, 94, 95] (by decide +kernel) (by decide +kernel)
set_option maxRecDepth 20000 in
theorem gX11_line_X7_draftLine : GoodIn wsX11_line (wsV RX11 120 RX7 yX7_draftLine wsX7_draftLine) := goodIn_app (goodIn_of _ (by decide +kernel)) ggX11_line_X7_draftLine
set_option maxRecDepth 20000 in
theorem ggX11_line_X11_keepDraft : GoodIn wsX11_line wsX11_keepDraft := goodIn_ca (goodIn_ca (goodIn_r _ [42, 1, 2, 43, 44, 3, 4, 12, 13, 14, 15, 16, 17, 45, 46, 47, 21, 48, 23, 49, 50, 51, 33, 52, 35, 37, 7, 38, 53, 54, 55, 56, 36, 6, 8, 9, 10, 11, 57, 58, 59, 60, 61, 62, 63, 64, 65, 66, 67, 68, 69, 70, 71, 72, 73, 74, 75, 76, 77, 31, 32, 34, 78, 79, 80, 81, 82, 83, 84, 85, 86, 87, 88, 89, 90, 91, 92, 93, 94, 95] (by decide +kernel) (by decide +kernel)) (goodIn_sub (fun _ h => List.mem_cons_of_mem _ (List.mem_append_left _ (List.mem_append_right _ h))) (by decide +kernel))) (goodIn_sub (fun _ h => List.mem_cons_of_mem _ (List.mem_append_right _ h)) (by decide +kernel))
set_option maxRecDepth 20000 in
theorem gX11_line_X11_keepDraft : GoodIn wsX11_line (wsV RX11 124 RX11 yX11_keepDraft wsX11_keepDraft) := goodIn_app (goodIn_of _ (by decide +kernel)) ggX11_line_X11_keepDraft
theorem dX11_line_0 : decode cX11_line 0 = .ok (.iload_n 1, 1) := by decide +kernel
theorem dX11_line_1 : decode cX11_line 1 = .ok (.iload_n 2, 1) := by decide +kernel
theorem dX11_line_2 : decode cX11_line 2 = .ok (.invokestatic 110, 3) := by decide +kernel
theorem dX11_line_5 : decode cX11_line 5 = .ok (.ifCond .eq 12, 3) := by decide +kernel
theorem dX11_line_8 : decode cX11_line 8 = .ok (.iload_n 3, 1) := by decide +kernel
theorem dX11_line_9 : decode cX11_line 9 = .ok (.iload 4, 2) := by decide +kernel
theorem dX11_line_11 : decode cX11_line 11 = .ok (.invokestatic 110, 3) := by decide +kernel
theorem dX11_line_14 : decode cX11_line 14 = .ok (.ifCond .ne 13, 3) := by decide +kernel
theorem dX11_line_17 : decode cX11_line 17 = .ok (.new 114, 3) := by decide +kernel
theorem dX11_line_20 : decode cX11_line 20 = .ok (.dup, 1) := by decide +kernel
theorem dX11_line_21 : decode cX11_line 21 = .ok (.ldc 116, 2) := by decide +kernel
theorem dX11_line_23 : decode cX11_line 23 = .ok (.invokespecial 118, 3) := by decide +kernel
theorem dX11_line_26 : decode cX11_line 26 = .ok (.athrow, 1) := by decide +kernel
theorem dX11_line_27 : decode cX11_line 27 = .ok (.aload_n 0, 1) := by decide +kernel
theorem dX11_line_28 : decode cX11_line 28 = .ok (.getfield 19, 3) := by decide +kernel
theorem dX11_line_31 : decode cX11_line 31 = .ok (.iload_n 1, 1) := by decide +kernel
theorem dX11_line_32 : decode cX11_line 32 = .ok (.iload_n 2, 1) := by decide +kernel
theorem dX11_line_33 : decode cX11_line 33 = .ok (.iload_n 3, 1) := by decide +kernel
theorem dX11_line_34 : decode cX11_line 34 = .ok (.iload 4, 2) := by decide +kernel
theorem dX11_line_36 : decode cX11_line 36 = .ok (.aload_n 0, 1) := by decide +kernel
theorem dX11_line_37 : decode cX11_line 37 = .ok (.getfield 10, 3) := by decide +kernel
theorem dX11_line_40 : decode cX11_line 40 = .ok (.invokevirtual 119, 3) := by decide +kernel
theorem dX11_line_43 : decode cX11_line 43 = .ok (.invokevirtual 120, 3) := by decide +kernel
theorem dX11_line_46 : decode cX11_line 46 = .ok (.aload_n 0, 1) := by decide +kernel
theorem dX11_line_47 : decode cX11_line 47 = .ok (.invokevirtual 124, 3) := by decide +kernel
theorem dX11_line_50 : decode cX11_line 50 = .ok (.ireturn, 1) := by decide +kernel
theorem twX11_line_17 : ∀ w ∈ (vx_atS RX11 118 (dEx 1) dNms).filter (fun w => !goodWord w), w ∈ [Cond.declares (Bundle.initS "java/lang/RuntimeException"), Cond.declares (Bundle.initS "java/lang/Exception"), Cond.declares (Bundle.initS Bundle.tN), Cond.castable (dEx 1) (dEx 1)] := by decide +kernel
theorem toX11_line_17 : ∀ w ∈ Cond.classLink RX11 114 (dEx 1) :: Cond.initialized (dEx 1) :: vx_atS RX11 118 (dEx 1) dNms, vx_ot w = true := by decide +kernel
def fX11_line (m : dM) (p0 : Nat) (p1 : Int32) (p2 : Int32) (p3 : Int32) (p4 : Int32) : Option ((Nat × dM) ⊕ (Int32 × dM)) := dg (dkg p0 12) ((fX11_isOnField m p1 p2).bind (fun v2 => if v2 = 0 then some (.inl (1, m)) else (fX11_isOnField m p3 p4).bind (fun v4 => if v4 = 0 then some (.inl (1, m)) else (fX1_number m 1).bind (fun v6 => (fX7_draftLine m 6 p1 p2 p3 p4 v6).bind (fun m8 => (fX11_keepDraft m8 p0).bind (fun q => dS q (fun x => some (.inl x)) (fun q => dP2 q (fun v13 m10 => some (.inr (v13, m10))))))))))
set_option maxHeartbeats 4000000 in
set_option maxRecDepth 100000 in
theorem kX11_line (l : Launch) (g : dG) (hst : l.stackTraces = false) {m : dM} {p0 : Nat} {p1 : Int32} {p2 : Int32} {p3 : Int32} {p4 : Int32} {o : ((Nat × dM) ⊕ (Int32 × dM))} (h : fX11_line m p0 p1 p2 p3 p4 = some o) : dXMet l g yX11_line wsX11_line 7 110 1 [.ref (dad g p0), .int p1, .int p2, .int p3, .int p4] m o (dXI g o) := by
  refine dxof (cc := cX11_line) (maxL := 5) (ret := (some .int)) _ (by decide) rfl (Nat.le_of_ble_eq_true rfl) ?_
  intro p e s mth below meth c S hr hlk hnt hE H ls hP hS hl
  have S : CallFix p mth c cX11_line 5 s _ wsX11_line RX11 := S
  have hl : lv_has ls 5 [(0, .ref (dad g p0)), (1, .int p1), (2, .int p2), (3, .int p3), (4, .int p4)] := hl
  obtain ⟨locs, hlocs⟩ : ∃ z : List Loc, z = [] := ⟨_, rfl⟩
  rw [← hlocs] at hS ⊢
  have in11 : ∀ w ∈ wsX110, w ∈ wsX11_line := by decide +kernel
  unfold fX11_line at h
  obtain ⟨k0, h⟩ := d_g h
  have k0 := d_k k0
  refine lv_iload_n S.1 S.2.1 dX11_line_0 rfl (lv_at hl 1 rfl) ?_
  refine lv_iload_n S.1 S.2.1 dX11_line_1 rfl (lv_at hl 2 rfl) ?_
  obtain ⟨v2, hc1, h⟩ := d_b h
  refine dri (va_runS (As := [.int p1, .int p2]) (rest := []) S (kX11_isOnField l g hc1) (va_cwS 2 S.2.2.2.2 gX11_line_X11_isOnField rfl rfl rfl ynX11_isOnField ⟨Nat.le_of_ble_eq_true rfl, Nat.le_of_ble_eq_true rfl⟩) (dpS hE hP hS) rfl rfl hl.1 rfl (lv_room (Nat.le_of_ble_eq_true rfl)) dX11_line_2 ⟨Nat.le_of_ble_eq_true rfl, Nat.le_of_ble_eq_true rfl⟩) hS (fun H locs hP hS => ?_)
  refine lv_if_eq (tgt := 17) S.1 S.2.1 dX11_line_5 (by decide) (fun cq => ?_) (fun cq => ?_)
  · have h := d_t cq h
    obtain rfl := Option.some.inj h
    exact dx_throwS (k := 1) (text := "a place is not on the field") rfl S hst hlk hnt hE hP hS (by decide) (by decide) hl.1 (S.2.2.2.2 (.classLink RX11 114 "java/lang/IllegalArgumentException") (List.mem_of_getElem? (i := 1) rfl)) (S.2.2.2.2 (.initialized "java/lang/IllegalArgumentException") (List.mem_of_getElem? (i := 2) rfl)) (by decide) (fun w hw => List.mem_cons_of_mem _ (List.mem_append_left _ (List.mem_append_right _ hw))) twX11_line_17 toX11_line_17 dX11_line_17 dX11_line_20 dX11_line_21 dX11_line_23 dX11_line_26 ⟨Nat.le_of_ble_eq_true rfl, Nat.le_of_ble_eq_true rfl, Nat.le_of_ble_eq_true rfl, Nat.le_of_ble_eq_true rfl⟩ (Nat.le_of_ble_eq_true rfl) (Nat.le_of_ble_eq_true rfl)
  · have h := d_f cq h
    refine lv_iload_n S.1 S.2.1 dX11_line_8 rfl (lv_at hl 3 rfl) ?_
    refine lv_iload S.1 S.2.1 dX11_line_9 (lv_at hl 4 rfl) ?_
    obtain ⟨v4, hc3, h⟩ := d_b h
    refine dri (va_runS (As := [.int p3, .int p4]) (rest := []) S (kX11_isOnField l g hc3) (va_cwS 2 S.2.2.2.2 gX11_line_X11_isOnField rfl rfl rfl ynX11_isOnField ⟨Nat.le_of_ble_eq_true rfl, Nat.le_of_ble_eq_true rfl⟩) (dpS hE hP hS) rfl rfl hl.1 rfl (lv_room (Nat.le_of_ble_eq_true rfl)) dX11_line_11 ⟨Nat.le_of_ble_eq_true rfl, Nat.le_of_ble_eq_true rfl⟩) hS (fun H locs hP hS => ?_)
    refine lv_if_ne (tgt := 27) S.1 S.2.1 dX11_line_14 (by decide) (fun cq => ?_) (fun cq => ?_)
    · have h := d_f cq h
      refine lv_aload_n S.1 S.2.1 dX11_line_27 rfl (lv_at hl 0 rfl) ?_
      refine dgf11_1 S in11 hE hP k0 (S.2.2.2.2 (.fieldLink RX11 19 "DrillField" "sets" "LDrillField$Sets;") (List.mem_of_getElem? (i := 3) rfl)) dX11_line_28 ?_
      refine lv_iload_n S.1 S.2.1 dX11_line_31 rfl (lv_at hl 1 rfl) ?_
      refine lv_iload_n S.1 S.2.1 dX11_line_32 rfl (lv_at hl 2 rfl) ?_
      refine lv_iload_n S.1 S.2.1 dX11_line_33 rfl (lv_at hl 3 rfl) ?_
      refine lv_iload S.1 S.2.1 dX11_line_34 (lv_at hl 4 rfl) ?_
      refine lv_aload_n S.1 S.2.1 dX11_line_36 rfl (lv_at hl 0 rfl) ?_
      refine dgf11_0 S in11 hE hP k0 (S.2.2.2.2 (.fieldLink RX11 10 "DrillField" "dots" "LDrillField$Dots;") (List.mem_of_getElem? (i := 4) rfl)) dX11_line_37 ?_
      obtain ⟨v6, hc5, h⟩ := d_b h
      refine dri (va_runV (As := []) (rest := [.int p4, .int p3, .int p2, .int p1, .ref (dad g 6)]) S (kX1_number l g hc5) (cwV 0 S.2.2.2.2 gX11_line_X1_number rfl rfl rfl ynX1_number ⟨Nat.le_of_ble_eq_true rfl, Nat.le_of_ble_eq_true rfl⟩) (dpV hE hP hS (ci := 1) rfl (dat2 dk_1)) rfl rfl hl.1 rfl (lv_room (Nat.le_of_ble_eq_true rfl)) dX11_line_40 ⟨Nat.le_of_ble_eq_true rfl, Nat.le_of_ble_eq_true rfl⟩) hS (fun H locs hP hS => ?_)
      obtain ⟨m8, hc7, h⟩ := d_b h
      refine drv (va_runV (As := [.int p1, .int p2, .int p3, .int p4, .int v6]) (rest := []) S (kX7_draftLine l g hc7) (cwV 5 S.2.2.2.2 gX11_line_X7_draftLine rfl rfl rfl ynX7_draftLine ⟨Nat.le_of_ble_eq_true rfl, Nat.le_of_ble_eq_true rfl⟩) (dpV hE hP hS (ci := 7) rfl (dat8 dk_6)) rfl rfl hl.1 rfl (lv_room (Nat.le_of_ble_eq_true rfl)) dX11_line_43 ⟨Nat.le_of_ble_eq_true rfl, Nat.le_of_ble_eq_true rfl⟩) hS (fun H locs hP hS => ?_)
      refine lv_aload_n S.1 S.2.1 dX11_line_46 rfl (lv_at hl 0 rfl) ?_
      obtain ⟨q11, hc9, h⟩ := d_b h
      refine dxri (o := q11) (vx_runV (As := []) (rest := []) S (kX11_keepDraft l g hst hc9) (cwV 0 S.2.2.2.2 gX11_line_X11_keepDraft rfl rfl rfl ynX11_keepDraft ⟨Nat.le_of_ble_eq_true rfl, Nat.le_of_ble_eq_true rfl⟩) (dpV hE hP hS (ci := 11) rfl (dat12 k0)) rfl rfl hl.1 rfl (lv_room (Nat.le_of_ble_eq_true rfl)) dX11_line_47 ⟨Nat.le_of_ble_eq_true rfl, Nat.le_of_ble_eq_true rfl⟩) hS (fun u12 q9 ce H locs eo hP hS h1 h2 h3 => ?_) (fun v13 m10 H locs eo hP hS => ?_)
      · subst eo
        have h := d_s1 h
        obtain rfl := Option.some.inj h
        exact dxout rfl hnt hlk hP hS h1 h2 h3 (Nat.le_of_ble_eq_true rfl) (Nat.le_of_ble_eq_true rfl)
      · subst eo
        have h := d_s2 h
        have h := d_p2 h
        obtain rfl := Option.some.inj h
        exact dxti rfl S hr hlk hE hP hS rfl (Nat.le_of_ble_eq_true rfl) (Nat.le_of_ble_eq_true rfl) dX11_line_50
    · have h := d_t cq h
      obtain rfl := Option.some.inj h
      exact dx_throwS (k := 1) (text := "a place is not on the field") rfl S hst hlk hnt hE hP hS (by decide) (by decide) hl.1 (S.2.2.2.2 (.classLink RX11 114 "java/lang/IllegalArgumentException") (List.mem_of_getElem? (i := 1) rfl)) (S.2.2.2.2 (.initialized "java/lang/IllegalArgumentException") (List.mem_of_getElem? (i := 2) rfl)) (by decide) (fun w hw => List.mem_cons_of_mem _ (List.mem_append_left _ (List.mem_append_right _ hw))) twX11_line_17 toX11_line_17 dX11_line_17 dX11_line_20 dX11_line_21 dX11_line_23 dX11_line_26 ⟨Nat.le_of_ble_eq_true rfl, Nat.le_of_ble_eq_true rfl, Nat.le_of_ble_eq_true rfl, Nat.le_of_ble_eq_true rfl⟩ (Nat.le_of_ble_eq_true rfl) (Nat.le_of_ble_eq_true rfl)
set_option maxRecDepth 20000 in
theorem ggX11_page_X11_needPart : GoodIn wsX11_page wsX11_needPart := goodIn_ca (goodIn_r _ [6, 1, 7, 8, 9, 10, 11, 12, 13, 14, 5, 15, 16, 17, 18, 19, 20, 75, 76, 77, 78, 79, 80, 81, 82, 83, 84, 85, 86] (by decide +kernel) (by decide +kernel)) (goodIn_sub (fun _ h => List.mem_cons_of_mem _ (List.mem_append_left _ (List.mem_append_right _ h))) (by decide +kernel))
set_option maxRecDepth 20000 in
theorem gX11_page_X11_needPart : GoodIn wsX11_page (wsV RX11 154 RX11 yX11_needPart wsX11_needPart) := goodIn_app (goodIn_of _ (by decide +kernel)) ggX11_page_X11_needPart
set_option maxRecDepth 20000 in
theorem ggX11_page_X11_needDot : GoodIn wsX11_page wsX11_needDot := goodIn_ca (goodIn_r _ [24, 25, 26, 27, 28, 29, 30, 31, 13, 14, 5, 15, 16, 17, 18, 19, 20, 75, 76, 77, 78, 79, 80, 81, 82, 87, 88, 89, 90, 91] (by decide +kernel) (by decide +kernel)) (goodIn_sub (fun _ h => List.mem_cons_of_mem _ (List.mem_append_left _ (List.mem_append_right _ h))) (by decide +kernel))
set_option maxRecDepth 20000 in
theorem gX11_page_X11_needDot : GoodIn wsX11_page (wsV RX11 84 RX11 yX11_needDot wsX11_needDot) := goodIn_app (goodIn_of _ (by decide +kernel)) ggX11_page_X11_needDot
set_option maxRecDepth 20000 in
theorem ggX11_page_X11_needRange : GoodIn wsX11_page wsX11_needRange := goodIn_ca (goodIn_r _ [34, 35, 36, 18, 19, 5, 20] (by decide +kernel) (by decide +kernel)) (goodIn_sub (fun _ h => List.mem_cons_of_mem _ (List.mem_append_right _ h)) (by decide +kernel))
set_option maxRecDepth 20000 in
theorem gX11_page_X11_needRange : GoodIn wsX11_page (va_wsS RX11 65 yX11_needRange wsX11_needRange) := goodIn_app (goodIn_of _ (by decide +kernel)) ggX11_page_X11_needRange
set_option maxRecDepth 20000 in
theorem ggX11_page_X8_numbered : GoodIn wsX11_page wsX8_numbered := goodIn_r _ [40, 41, 42, 19, 5, 20, 83, 84, 85, 86] (by decide +kernel) (by decide +kernel)
set_option maxRecDepth 20000 in
theorem gX11_page_X8_numbered : GoodIn wsX11_page (wsV RX11 140 RX8 yX8_numbered wsX8_numbered) := goodIn_app (goodIn_of _ (by decide +kernel)) ggX11_page_X8_numbered
set_option maxRecDepth 20000 in
theorem ggX11_page_X5_ends : GoodIn wsX11_page wsX5_ends := goodIn_r _ [47, 48, 92, 93, 94, 95, 96, 97, 98] (by decide +kernel) (by decide +kernel)
set_option maxRecDepth 20000 in
theorem gX11_page_X5_ends : GoodIn wsX11_page (wsV RX11 217 RX5 yX5_ends wsX5_ends) := goodIn_app (goodIn_of _ (by decide +kernel)) ggX11_page_X5_ends
set_option maxRecDepth 20000 in
theorem ggX11_page_X9_x : GoodIn wsX11_page wsX9_x := goodIn_r _ [53, 54, 55, 5, 56, 99, 100] (by decide +kernel) (by decide +kernel)
set_option maxRecDepth 20000 in
theorem gX11_page_X9_x : GoodIn wsX11_page (wsV RX11 221 RX9 yX9_x wsX9_x) := goodIn_app (goodIn_of _ (by decide +kernel)) ggX11_page_X9_x
set_option maxRecDepth 20000 in
theorem ggX11_page_X11_nearestLine : GoodIn wsX11_page wsX11_nearestLine := goodIn_r _ [59, 60, 61, 5, 62, 63, 64, 65, 66] (by decide +kernel) (by decide +kernel)
set_option maxRecDepth 20000 in
theorem gX11_page_X11_nearestLine : GoodIn wsX11_page (va_wsS RX11 224 yX11_nearestLine wsX11_nearestLine) := goodIn_app (goodIn_of _ (by decide +kernel)) ggX11_page_X11_nearestLine
set_option maxRecDepth 20000 in
theorem ggX11_page_X9_y : GoodIn wsX11_page wsX9_y := goodIn_r _ [70, 71, 55, 5, 56, 99, 100] (by decide +kernel) (by decide +kernel)
set_option maxRecDepth 20000 in
theorem gX11_page_X9_y : GoodIn wsX11_page (wsV RX11 227 RX9 yX9_y wsX9_y) := goodIn_app (goodIn_of _ (by decide +kernel)) ggX11_page_X9_y
set_option maxRecDepth 20000 in
theorem ggX11_page_X11_nearestRow : GoodIn wsX11_page wsX11_nearestRow := goodIn_r _ [74, 60, 61, 5, 62, 63, 64, 65, 66] (by decide +kernel) (by decide +kernel)
set_option maxRecDepth 20000 in
theorem gX11_page_X11_nearestRow : GoodIn wsX11_page (va_wsS RX11 230 yX11_nearestRow wsX11_nearestRow) := goodIn_app (goodIn_of _ (by decide +kernel)) ggX11_page_X11_nearestRow
theorem dX11_page_0 : decode cX11_page 0 = .ok (.aload_n 0, 1) := by decide +kernel
theorem dX11_page_1 : decode cX11_page 1 = .ok (.iload_n 1, 1) := by decide +kernel
theorem dX11_page_2 : decode cX11_page 2 = .ok (.invokevirtual 154, 3) := by decide +kernel
theorem dX11_page_5 : decode cX11_page 5 = .ok (.aload_n 0, 1) := by decide +kernel
theorem dX11_page_6 : decode cX11_page 6 = .ok (.iload_n 2, 1) := by decide +kernel
theorem dX11_page_7 : decode cX11_page 7 = .ok (.invokevirtual 84, 3) := by decide +kernel
theorem dX11_page_10 : decode cX11_page 10 = .ok (.iload_n 3, 1) := by decide +kernel
theorem dX11_page_11 : decode cX11_page 11 = .ok (.iconst 0, 1) := by decide +kernel
theorem dX11_page_12 : decode cX11_page 12 = .ok (.iconst 3, 1) := by decide +kernel
theorem dX11_page_13 : decode cX11_page 13 = .ok (.invokestatic 65, 3) := by decide +kernel
theorem dX11_page_16 : decode cX11_page 16 = .ok (.aload_n 0, 1) := by decide +kernel
theorem dX11_page_17 : decode cX11_page 17 = .ok (.getfield 26, 3) := by decide +kernel
theorem dX11_page_20 : decode cX11_page 20 = .ok (.iload_n 1, 1) := by decide +kernel
theorem dX11_page_21 : decode cX11_page 21 = .ok (.invokevirtual 140, 3) := by decide +kernel
theorem dX11_page_24 : decode cX11_page 24 = .ok (.invokevirtual 217, 3) := by decide +kernel
theorem dX11_page_27 : decode cX11_page 27 = .ok (.astore 4, 2) := by decide +kernel
theorem dX11_page_29 : decode cX11_page 29 = .ok (.iload_n 3, 1) := by decide +kernel
theorem dX11_page_30 : decode cX11_page 30 = .ok (.tableswitch 66 0 2 #[26, 36, 56], 26) := by decide +kernel
theorem dX11_page_56 : decode cX11_page 56 = .ok (.aload 4, 2) := by decide +kernel
theorem dX11_page_58 : decode cX11_page 58 = .ok (.iload_n 2, 1) := by decide +kernel
theorem dX11_page_59 : decode cX11_page 59 = .ok (.invokevirtual 221, 3) := by decide +kernel
theorem dX11_page_62 : decode cX11_page 62 = .ok (.invokestatic 224, 3) := by decide +kernel
theorem dX11_page_65 : decode cX11_page 65 = .ok (.ireturn, 1) := by decide +kernel
theorem dX11_page_66 : decode cX11_page 66 = .ok (.aload 4, 2) := by decide +kernel
theorem dX11_page_68 : decode cX11_page 68 = .ok (.iload_n 2, 1) := by decide +kernel
theorem dX11_page_69 : decode cX11_page 69 = .ok (.invokevirtual 221, 3) := by decide +kernel
theorem dX11_page_72 : decode cX11_page 72 = .ok (.bipush 80, 2) := by decide +kernel
theorem dX11_page_74 : decode cX11_page 74 = .ok (.aload 4, 2) := by decide +kernel
theorem dX11_page_76 : decode cX11_page 76 = .ok (.iload_n 2, 1) := by decide +kernel
theorem dX11_page_77 : decode cX11_page 77 = .ok (.invokevirtual 221, 3) := by decide +kernel
theorem dX11_page_80 : decode cX11_page 80 = .ok (.invokestatic 224, 3) := by decide +kernel
theorem dX11_page_83 : decode cX11_page 83 = .ok (.imul, 1) := by decide +kernel
theorem dX11_page_84 : decode cX11_page 84 = .ok (.isub, 1) := by decide +kernel
theorem dX11_page_85 : decode cX11_page 85 = .ok (.ireturn, 1) := by decide +kernel
theorem dX11_page_86 : decode cX11_page 86 = .ok (.aload 4, 2) := by decide +kernel
theorem dX11_page_88 : decode cX11_page 88 = .ok (.iload_n 2, 1) := by decide +kernel
theorem dX11_page_89 : decode cX11_page 89 = .ok (.invokevirtual 227, 3) := by decide +kernel
theorem dX11_page_92 : decode cX11_page 92 = .ok (.invokestatic 230, 3) := by decide +kernel
theorem dX11_page_95 : decode cX11_page 95 = .ok (.ireturn, 1) := by decide +kernel
theorem dX11_page_96 : decode cX11_page 96 = .ok (.aload 4, 2) := by decide +kernel
theorem dX11_page_98 : decode cX11_page 98 = .ok (.iload_n 2, 1) := by decide +kernel
theorem dX11_page_99 : decode cX11_page 99 = .ok (.invokevirtual 227, 3) := by decide +kernel
theorem dX11_page_102 : decode cX11_page 102 = .ok (.sipush 280, 3) := by decide +kernel
theorem dX11_page_105 : decode cX11_page 105 = .ok (.aload 4, 2) := by decide +kernel
theorem dX11_page_107 : decode cX11_page 107 = .ok (.iload_n 2, 1) := by decide +kernel
theorem dX11_page_108 : decode cX11_page 108 = .ok (.invokevirtual 227, 3) := by decide +kernel
theorem dX11_page_111 : decode cX11_page 111 = .ok (.invokestatic 230, 3) := by decide +kernel
theorem dX11_page_114 : decode cX11_page 114 = .ok (.imul, 1) := by decide +kernel
theorem dX11_page_115 : decode cX11_page 115 = .ok (.isub, 1) := by decide +kernel
theorem dX11_page_116 : decode cX11_page 116 = .ok (.ireturn, 1) := by decide +kernel
def fX11_page (m : dM) (p0 : Nat) (p1 : Int32) (p2 : Int32) (p3 : Int32) : Option ((Nat × dM) ⊕ (Int32 × dM)) := dg (dkg p0 12) ((fX11_needPart m p0 p1).bind (fun q => dS q (fun x => some (.inl x)) (fun m2 => (fX11_needDot m2 p0 p2).bind (fun q => dS q (fun x => some (.inl x)) (fun m6 => (fX11_needRange m6 p3 0 3).bind (fun q => dS q (fun x => some (.inl x)) (fun m10 => (fX8_numbered m10 47 p1).bind (fun v14 => dg (dkg v14 6) ((fX5_ends m10 v14).bind (fun v17 => dg (dkg v17 10) (if p3 = 0 then (fX9_x m10 v17 p2).bind (fun v26 => (fX11_nearestLine m10 v26).bind (fun v28 => some (.inr (v28, m10)))) else if p3 = 1 then (fX9_x m10 v17 p2).bind (fun v30 => (fX9_x m10 v17 p2).bind (fun v32 => (fX11_nearestLine m10 v32).bind (fun v34 => some (.inr (v30 - (80 * v34), m10))))) else if p3 = 2 then (fX9_y m10 v17 p2).bind (fun v36 => (fX11_nearestRow m10 v36).bind (fun v38 => some (.inr (v38, m10)))) else (fX9_y m10 v17 p2).bind (fun v20 => (fX9_y m10 v17 p2).bind (fun v22 => (fX11_nearestRow m10 v22).bind (fun v24 => some (.inr (v20 - (280 * v24), m10))))))))))))))))
set_option maxHeartbeats 4000000 in
set_option maxRecDepth 100000 in
theorem kX11_page (l : Launch) (g : dG) (hst : l.stackTraces = false) {m : dM} {p0 : Nat} {p1 : Int32} {p2 : Int32} {p3 : Int32} {o : ((Nat × dM) ⊕ (Int32 × dM))} (h : fX11_page m p0 p1 p2 p3 = some o) : dXMet l g yX11_page wsX11_page 8 132 3 [.ref (dad g p0), .int p1, .int p2, .int p3] m o (dXI g o) := by
  refine dxof (cc := cX11_page) (maxL := 5) (ret := (some .int)) _ (by decide) rfl (Nat.le_of_ble_eq_true rfl) ?_
  intro p e s mth below meth c S hr hlk hnt hE H ls hP hS hl
  have S : CallFix p mth c cX11_page 5 s _ wsX11_page RX11 := S
  have hl : lv_has ls 5 [(0, .ref (dad g p0)), (1, .int p1), (2, .int p2), (3, .int p3)] := hl
  obtain ⟨locs, hlocs⟩ : ∃ z : List Loc, z = [] := ⟨_, rfl⟩
  rw [← hlocs] at hS ⊢
  have in11 : ∀ w ∈ wsX110, w ∈ wsX11_page := by decide +kernel
  unfold fX11_page at h
  obtain ⟨k0, h⟩ := d_g h
  have k0 := d_k k0
  refine lv_aload_n S.1 S.2.1 dX11_page_0 rfl (lv_at hl 0 rfl) ?_
  refine lv_iload_n S.1 S.2.1 dX11_page_1 rfl (lv_at hl 1 rfl) ?_
  obtain ⟨q3, hc1, h⟩ := d_b h
  refine dxrv (o := q3) (vx_runV (As := [.int p1]) (rest := []) S (kX11_needPart l g hst hc1) (cwV 1 S.2.2.2.2 gX11_page_X11_needPart rfl rfl rfl ynX11_needPart ⟨Nat.le_of_ble_eq_true rfl, Nat.le_of_ble_eq_true rfl⟩) (dpV hE hP hS (ci := 11) rfl (dat12 k0)) rfl rfl hl.1 rfl (lv_room (Nat.le_of_ble_eq_true rfl)) dX11_page_2 ⟨Nat.le_of_ble_eq_true rfl, Nat.le_of_ble_eq_true rfl⟩) hS (fun u4 q9 ce H locs eo hP hS h1 h2 h3 => ?_) (fun m2 H locs eo hP hS => ?_)
  · subst eo
    have h := d_s1 h
    obtain rfl := Option.some.inj h
    exact dxout rfl hnt hlk hP hS h1 h2 h3 (Nat.le_of_ble_eq_true rfl) (Nat.le_of_ble_eq_true rfl)
  · subst eo
    have h := d_s2 h
    refine lv_aload_n S.1 S.2.1 dX11_page_5 rfl (lv_at hl 0 rfl) ?_
    refine lv_iload_n S.1 S.2.1 dX11_page_6 rfl (lv_at hl 2 rfl) ?_
    obtain ⟨q7, hc5, h⟩ := d_b h
    refine dxrv (o := q7) (vx_runV (As := [.int p2]) (rest := []) S (kX11_needDot l g hst hc5) (cwV 1 S.2.2.2.2 gX11_page_X11_needDot rfl rfl rfl ynX11_needDot ⟨Nat.le_of_ble_eq_true rfl, Nat.le_of_ble_eq_true rfl⟩) (dpV hE hP hS (ci := 11) rfl (dat12 k0)) rfl rfl hl.1 rfl (lv_room (Nat.le_of_ble_eq_true rfl)) dX11_page_7 ⟨Nat.le_of_ble_eq_true rfl, Nat.le_of_ble_eq_true rfl⟩) hS (fun u8 q9 ce H locs eo hP hS h1 h2 h3 => ?_) (fun m6 H locs eo hP hS => ?_)
    · subst eo
      have h := d_s1 h
      obtain rfl := Option.some.inj h
      exact dxout rfl hnt hlk hP hS h1 h2 h3 (Nat.le_of_ble_eq_true rfl) (Nat.le_of_ble_eq_true rfl)
    · subst eo
      have h := d_s2 h
      refine lv_iload_n S.1 S.2.1 dX11_page_10 rfl (lv_at hl 3 rfl) ?_
      refine lv_iconst (v := 0) S.1 S.2.1 dX11_page_11 (by decide) ?_
      refine lv_iconst (v := 3) S.1 S.2.1 dX11_page_12 (by decide) ?_
      obtain ⟨q11, hc9, h⟩ := d_b h
      refine dxrv (o := q11) (vx_runS (As := [.int p3, .int 0, .int 3]) (rest := []) S (kX11_needRange l g hst hc9) (va_cwS 3 S.2.2.2.2 gX11_page_X11_needRange rfl rfl rfl ynX11_needRange ⟨Nat.le_of_ble_eq_true rfl, Nat.le_of_ble_eq_true rfl⟩) (dpS hE hP hS) rfl rfl hl.1 rfl (lv_room (Nat.le_of_ble_eq_true rfl)) dX11_page_13 ⟨Nat.le_of_ble_eq_true rfl, Nat.le_of_ble_eq_true rfl⟩) hS (fun u12 q9 ce H locs eo hP hS h1 h2 h3 => ?_) (fun m10 H locs eo hP hS => ?_)
      · subst eo
        have h := d_s1 h
        obtain rfl := Option.some.inj h
        exact dxout rfl hnt hlk hP hS h1 h2 h3 (Nat.le_of_ble_eq_true rfl) (Nat.le_of_ble_eq_true rfl)
      · subst eo
        have h := d_s2 h
        refine lv_aload_n S.1 S.2.1 dX11_page_16 rfl (lv_at hl 0 rfl) ?_
        refine dgf11_2 S in11 hE hP k0 (S.2.2.2.2 (.fieldLink RX11 26 "DrillField" "show" "LDrillField$Show;") (List.mem_of_getElem? (i := 1) rfl)) dX11_page_17 ?_
        refine lv_iload_n S.1 S.2.1 dX11_page_20 rfl (lv_at hl 1 rfl) ?_
        obtain ⟨v14, hc13, h⟩ := d_b h
        obtain ⟨hk15, h⟩ := d_g h
        have hk15 := d_k hk15
        refine drr (va_runV (As := [.int p1]) (rest := []) S (kX8_numbered l g hc13) (cwV 1 S.2.2.2.2 gX11_page_X8_numbered rfl rfl rfl ynX8_numbered ⟨Nat.le_of_ble_eq_true rfl, Nat.le_of_ble_eq_true rfl⟩) (dpV hE hP hS (ci := 8) rfl (dat9 dk_47)) rfl rfl hl.1 rfl (lv_room (Nat.le_of_ble_eq_true rfl)) dX11_page_21 ⟨Nat.le_of_ble_eq_true rfl, Nat.le_of_ble_eq_true rfl⟩) hS (fun H locs hP hS => ?_)
        obtain ⟨v17, hc16, h⟩ := d_b h
        obtain ⟨hk18, h⟩ := d_g h
        have hk18 := d_k hk18
        refine drr (va_runV (As := []) (rest := []) S (kX5_ends l g hc16) (cwV 0 S.2.2.2.2 gX11_page_X5_ends rfl rfl rfl ynX5_ends ⟨Nat.le_of_ble_eq_true rfl, Nat.le_of_ble_eq_true rfl⟩) (dpV hE hP hS (ci := 5) rfl (dat6 hk15)) rfl rfl hl.1 rfl (lv_room (Nat.le_of_ble_eq_true rfl)) dX11_page_24 ⟨Nat.le_of_ble_eq_true rfl, Nat.le_of_ble_eq_true rfl⟩) hS (fun H locs hP hS => ?_)
        refine lv_astore (lv' := [(4, .ref (dad g v17)), (0, .ref (dad g p0)), (1, .int p1), (2, .int p2), (3, .int p3)]) S.1 S.2.1 dX11_page_27 hl (by decide) rfl (fun ls hl => ?_)
        refine lv_iload_n S.1 S.2.1 dX11_page_29 rfl (lv_at hl 4 rfl) ?_
        by_cases c0 : p3 = 0
        · have h := d_t c0 h
          refine lv_tableIn (off := 26) (tgt := 56) S.1 S.2.1 dX11_page_30 (by rw [c0]; decide) (by rw [c0]; decide) (by rw [c0]; rfl) (by decide) ?_
          refine lv_aload S.1 S.2.1 dX11_page_56 (lv_at hl 0 rfl) ?_
          refine lv_iload_n S.1 S.2.1 dX11_page_58 rfl (lv_at hl 3 rfl) ?_
          obtain ⟨v26, hc25, h⟩ := d_b h
          refine dri (va_runV (As := [.int p2]) (rest := []) S (kX9_x l g hc25) (cwV 1 S.2.2.2.2 gX11_page_X9_x rfl rfl rfl ynX9_x ⟨Nat.le_of_ble_eq_true rfl, Nat.le_of_ble_eq_true rfl⟩) (dpV hE hP hS (ci := 9) rfl (dat10 hk18)) rfl rfl hl.1 rfl (lv_room (Nat.le_of_ble_eq_true rfl)) dX11_page_59 ⟨Nat.le_of_ble_eq_true rfl, Nat.le_of_ble_eq_true rfl⟩) hS (fun H locs hP hS => ?_)
          obtain ⟨v28, hc27, h⟩ := d_b h
          refine dri (va_runS (As := [.int v26]) (rest := []) S (kX11_nearestLine l g hc27) (va_cwS 1 S.2.2.2.2 gX11_page_X11_nearestLine rfl rfl rfl ynX11_nearestLine ⟨Nat.le_of_ble_eq_true rfl, Nat.le_of_ble_eq_true rfl⟩) (dpS hE hP hS) rfl rfl hl.1 rfl (lv_room (Nat.le_of_ble_eq_true rfl)) dX11_page_62 ⟨Nat.le_of_ble_eq_true rfl, Nat.le_of_ble_eq_true rfl⟩) hS (fun H locs hP hS => ?_)
          obtain rfl := Option.some.inj h
          exact dxti rfl S hr hlk hE hP hS rfl (Nat.le_of_ble_eq_true rfl) (Nat.le_of_ble_eq_true rfl) dX11_page_65
        · have h := d_f c0 h
          by_cases c1 : p3 = 1
          · have h := d_t c1 h
            refine lv_tableIn (off := 36) (tgt := 66) S.1 S.2.1 dX11_page_30 (by rw [c1]; decide) (by rw [c1]; decide) (by rw [c1]; rfl) (by decide) ?_
            refine lv_aload S.1 S.2.1 dX11_page_66 (lv_at hl 0 rfl) ?_
            refine lv_iload_n S.1 S.2.1 dX11_page_68 rfl (lv_at hl 3 rfl) ?_
            obtain ⟨v30, hc29, h⟩ := d_b h
            refine dri (va_runV (As := [.int p2]) (rest := []) S (kX9_x l g hc29) (cwV 1 S.2.2.2.2 gX11_page_X9_x rfl rfl rfl ynX9_x ⟨Nat.le_of_ble_eq_true rfl, Nat.le_of_ble_eq_true rfl⟩) (dpV hE hP hS (ci := 9) rfl (dat10 hk18)) rfl rfl hl.1 rfl (lv_room (Nat.le_of_ble_eq_true rfl)) dX11_page_69 ⟨Nat.le_of_ble_eq_true rfl, Nat.le_of_ble_eq_true rfl⟩) hS (fun H locs hP hS => ?_)
            refine lv_bipush (v := 80) S.1 S.2.1 dX11_page_72 (by decide) ?_
            refine lv_aload S.1 S.2.1 dX11_page_74 (lv_at hl 0 rfl) ?_
            refine lv_iload_n S.1 S.2.1 dX11_page_76 rfl (lv_at hl 3 rfl) ?_
            obtain ⟨v32, hc31, h⟩ := d_b h
            refine dri (va_runV (As := [.int p2]) (rest := [.int 80, .int v30]) S (kX9_x l g hc31) (cwV 1 S.2.2.2.2 gX11_page_X9_x rfl rfl rfl ynX9_x ⟨Nat.le_of_ble_eq_true rfl, Nat.le_of_ble_eq_true rfl⟩) (dpV hE hP hS (ci := 9) rfl (dat10 hk18)) rfl rfl hl.1 rfl (lv_room (Nat.le_of_ble_eq_true rfl)) dX11_page_77 ⟨Nat.le_of_ble_eq_true rfl, Nat.le_of_ble_eq_true rfl⟩) hS (fun H locs hP hS => ?_)
            obtain ⟨v34, hc33, h⟩ := d_b h
            refine dri (va_runS (As := [.int v32]) (rest := [.int 80, .int v30]) S (kX11_nearestLine l g hc33) (va_cwS 1 S.2.2.2.2 gX11_page_X11_nearestLine rfl rfl rfl ynX11_nearestLine ⟨Nat.le_of_ble_eq_true rfl, Nat.le_of_ble_eq_true rfl⟩) (dpS hE hP hS) rfl rfl hl.1 rfl (lv_room (Nat.le_of_ble_eq_true rfl)) dX11_page_80 ⟨Nat.le_of_ble_eq_true rfl, Nat.le_of_ble_eq_true rfl⟩) hS (fun H locs hP hS => ?_)
            refine lv_imul S.1 S.2.1 dX11_page_83 ?_
            refine lv_isub S.1 S.2.1 dX11_page_84 ?_
            obtain rfl := Option.some.inj h
            exact dxti rfl S hr hlk hE hP hS rfl (Nat.le_of_ble_eq_true rfl) (Nat.le_of_ble_eq_true rfl) dX11_page_85
          · have h := d_f c1 h
            by_cases c2 : p3 = 2
            · have h := d_t c2 h
              refine lv_tableIn (off := 56) (tgt := 86) S.1 S.2.1 dX11_page_30 (by rw [c2]; decide) (by rw [c2]; decide) (by rw [c2]; rfl) (by decide) ?_
              refine lv_aload S.1 S.2.1 dX11_page_86 (lv_at hl 0 rfl) ?_
              refine lv_iload_n S.1 S.2.1 dX11_page_88 rfl (lv_at hl 3 rfl) ?_
              obtain ⟨v36, hc35, h⟩ := d_b h
              refine dri (va_runV (As := [.int p2]) (rest := []) S (kX9_y l g hc35) (cwV 1 S.2.2.2.2 gX11_page_X9_y rfl rfl rfl ynX9_y ⟨Nat.le_of_ble_eq_true rfl, Nat.le_of_ble_eq_true rfl⟩) (dpV hE hP hS (ci := 9) rfl (dat10 hk18)) rfl rfl hl.1 rfl (lv_room (Nat.le_of_ble_eq_true rfl)) dX11_page_89 ⟨Nat.le_of_ble_eq_true rfl, Nat.le_of_ble_eq_true rfl⟩) hS (fun H locs hP hS => ?_)
              obtain ⟨v38, hc37, h⟩ := d_b h
              refine dri (va_runS (As := [.int v36]) (rest := []) S (kX11_nearestRow l g hc37) (va_cwS 1 S.2.2.2.2 gX11_page_X11_nearestRow rfl rfl rfl ynX11_nearestRow ⟨Nat.le_of_ble_eq_true rfl, Nat.le_of_ble_eq_true rfl⟩) (dpS hE hP hS) rfl rfl hl.1 rfl (lv_room (Nat.le_of_ble_eq_true rfl)) dX11_page_92 ⟨Nat.le_of_ble_eq_true rfl, Nat.le_of_ble_eq_true rfl⟩) hS (fun H locs hP hS => ?_)
              obtain rfl := Option.some.inj h
              exact dxti rfl S hr hlk hE hP hS rfl (Nat.le_of_ble_eq_true rfl) (Nat.le_of_ble_eq_true rfl) dX11_page_95
            · have h := d_f c2 h
              refine lv_tableOut (tgt := 96) S.1 S.2.1 dX11_page_30 (d_sw3 c0 c1 c2) (by decide) ?_
              refine lv_aload S.1 S.2.1 dX11_page_96 (lv_at hl 0 rfl) ?_
              refine lv_iload_n S.1 S.2.1 dX11_page_98 rfl (lv_at hl 3 rfl) ?_
              obtain ⟨v20, hc19, h⟩ := d_b h
              refine dri (va_runV (As := [.int p2]) (rest := []) S (kX9_y l g hc19) (cwV 1 S.2.2.2.2 gX11_page_X9_y rfl rfl rfl ynX9_y ⟨Nat.le_of_ble_eq_true rfl, Nat.le_of_ble_eq_true rfl⟩) (dpV hE hP hS (ci := 9) rfl (dat10 hk18)) rfl rfl hl.1 rfl (lv_room (Nat.le_of_ble_eq_true rfl)) dX11_page_99 ⟨Nat.le_of_ble_eq_true rfl, Nat.le_of_ble_eq_true rfl⟩) hS (fun H locs hP hS => ?_)
              refine lv_sipush (v := 280) S.1 S.2.1 dX11_page_102 (by decide) ?_
              refine lv_aload S.1 S.2.1 dX11_page_105 (lv_at hl 0 rfl) ?_
              refine lv_iload_n S.1 S.2.1 dX11_page_107 rfl (lv_at hl 3 rfl) ?_
              obtain ⟨v22, hc21, h⟩ := d_b h
              refine dri (va_runV (As := [.int p2]) (rest := [.int 280, .int v20]) S (kX9_y l g hc21) (cwV 1 S.2.2.2.2 gX11_page_X9_y rfl rfl rfl ynX9_y ⟨Nat.le_of_ble_eq_true rfl, Nat.le_of_ble_eq_true rfl⟩) (dpV hE hP hS (ci := 9) rfl (dat10 hk18)) rfl rfl hl.1 rfl (lv_room (Nat.le_of_ble_eq_true rfl)) dX11_page_108 ⟨Nat.le_of_ble_eq_true rfl, Nat.le_of_ble_eq_true rfl⟩) hS (fun H locs hP hS => ?_)
              obtain ⟨v24, hc23, h⟩ := d_b h
              refine dri (va_runS (As := [.int v22]) (rest := [.int 280, .int v20]) S (kX11_nearestRow l g hc23) (va_cwS 1 S.2.2.2.2 gX11_page_X11_nearestRow rfl rfl rfl ynX11_nearestRow ⟨Nat.le_of_ble_eq_true rfl, Nat.le_of_ble_eq_true rfl⟩) (dpS hE hP hS) rfl rfl hl.1 rfl (lv_room (Nat.le_of_ble_eq_true rfl)) dX11_page_111 ⟨Nat.le_of_ble_eq_true rfl, Nat.le_of_ble_eq_true rfl⟩) hS (fun H locs hP hS => ?_)
              refine lv_imul S.1 S.2.1 dX11_page_114 ?_
              refine lv_isub S.1 S.2.1 dX11_page_115 ?_
              obtain rfl := Option.some.inj h
              exact dxti rfl S hr hlk hE hP hS rfl (Nat.le_of_ble_eq_true rfl) (Nat.le_of_ble_eq_true rfl) dX11_page_116
set_option maxRecDepth 20000 in
theorem ggX11_part_X7_number : GoodIn wsX11_part wsX7_number := goodIn_r _ [10, 11, 184, 185, 186] (by decide +kernel) (by decide +kernel)
set_option maxRecDepth 20000 in
theorem gX11_part_X7_number : GoodIn wsX11_part (wsV RX11 69 RX7 yX7_number wsX7_number) := goodIn_app (goodIn_of _ (by decide +kernel)) ggX11_part_X7_number
set_option maxRecDepth 20000 in
theorem ggX11_part_X11_needIndex : GoodIn wsX11_part wsX11_needIndex := goodIn_ca (goodIn_r _ [15, 16, 17, 18, 19, 14, 20] (by decide +kernel) (by decide +kernel)) (goodIn_sub (fun _ h => List.mem_cons_of_mem _ (List.mem_append_left _ (List.mem_append_right _ h))) (by decide +kernel))
set_option maxRecDepth 20000 in
theorem gX11_part_X11_needIndex : GoodIn wsX11_part (va_wsS RX11 103 yX11_needIndex wsX11_needIndex) := goodIn_app (goodIn_of _ (by decide +kernel)) ggX11_part_X11_needIndex
set_option maxRecDepth 20000 in
theorem ggX11_part_X11_needRange : GoodIn wsX11_part wsX11_needRange := goodIn_ca (goodIn_r _ [23, 24, 25, 18, 19, 14, 20] (by decide +kernel) (by decide +kernel)) (goodIn_sub (fun _ h => List.mem_cons_of_mem _ (List.mem_append_right _ h)) (by decide +kernel))
set_option maxRecDepth 20000 in
theorem gX11_part_X11_needRange : GoodIn wsX11_part (va_wsS RX11 65 yX11_needRange wsX11_needRange) := goodIn_app (goodIn_of _ (by decide +kernel)) ggX11_part_X11_needRange
set_option maxRecDepth 20000 in
theorem ggX11_part_X8_number : GoodIn wsX11_part wsX8_number := goodIn_r _ [30, 31, 187, 188, 189, 190] (by decide +kernel) (by decide +kernel)
set_option maxRecDepth 20000 in
theorem gX11_part_X8_number : GoodIn wsX11_part (wsV RX11 134 RX8 yX8_number wsX8_number) := goodIn_app (goodIn_of _ (by decide +kernel)) ggX11_part_X8_number
set_option maxRecDepth 20000 in
theorem ggX11_part_X8_grow : GoodIn wsX11_part wsX8_grow := goodIn_r _ [35, 31, 36, 37, 38, 39, 187, 188, 189, 190] (by decide +kernel) (by decide +kernel)
set_option maxRecDepth 20000 in
theorem gX11_part_X8_grow : GoodIn wsX11_part (wsV RX11 137 RX8 yX8_grow wsX8_grow) := goodIn_app (goodIn_of _ (by decide +kernel)) ggX11_part_X8_grow
set_option maxRecDepth 20000 in
theorem ggX11_part_X8_numbered : GoodIn wsX11_part wsX8_numbered := goodIn_r _ [43, 44, 45, 19, 14, 20, 187, 188, 189, 190] (by decide +kernel) (by decide +kernel)
set_option maxRecDepth 20000 in
theorem gX11_part_X8_numbered : GoodIn wsX11_part (wsV RX11 140 RX8 yX8_numbered wsX8_numbered) := goodIn_app (goodIn_of _ (by decide +kernel)) ggX11_part_X8_numbered
set_option maxRecDepth 20000 in
theorem ggX11_part_X5_tell : GoodIn wsX11_part wsX5_tell := goodIn_r _ [50, 51, 52, 53, 54, 191, 192, 193, 194, 195, 196, 197] (by decide +kernel) (by decide +kernel)
set_option maxRecDepth 20000 in
theorem gX11_part_X5_tell : GoodIn wsX11_part (wsV RX11 144 RX5 yX5_tell wsX5_tell) := goodIn_app (goodIn_of _ (by decide +kernel)) ggX11_part_X5_tell
set_option maxRecDepth 20000 in
theorem ggX11_part_X1_number : GoodIn wsX11_part wsX1_number := goodIn_r _ [59, 60, 198, 199, 200, 201, 202] (by decide +kernel) (by decide +kernel)
set_option maxRecDepth 20000 in
theorem gX11_part_X1_number : GoodIn wsX11_part (wsV RX11 119 RX1 yX1_number wsX1_number) := goodIn_app (goodIn_of _ (by decide +kernel)) ggX11_part_X1_number
set_option maxRecDepth 20000 in
theorem ggX11_part_X8_findFrom : GoodIn wsX11_part wsX8_findFrom := goodIn_r _ [64, 31, 65, 66, 41, 42, 29, 43, 44, 45, 19, 14, 20, 67, 68, 69, 49, 70, 51, 71, 72, 73, 9, 74, 75, 76, 77, 78, 79, 80, 81, 82, 83, 84, 85, 86, 87, 88, 89, 90, 91, 92, 93, 94, 95, 96, 97, 98, 99, 100, 101, 102, 103, 104, 105, 106, 107, 108, 109, 110, 111, 54, 112, 113, 114, 115, 116, 117, 37, 38, 39, 118, 119, 120, 121, 122, 123, 124, 125, 126, 127, 128, 129, 130, 131, 132, 133, 134, 135, 136, 137, 138, 139, 140, 141, 142, 143, 144, 145, 146, 147, 148, 149, 150, 151, 152, 153, 154, 155, 156, 157, 158, 159, 160, 161, 162, 163, 164, 165, 166, 167, 168, 169, 170, 171, 172, 173, 174, 175, 187, 188, 189, 190, 191, 192, 193, 194, 195, 196, 197, 184, 185, 186, 203, 204, 205, 206, 207, 208, 209, 210, 211, 212] (by decide +kernel) (by decide +kernel)
set_option maxRecDepth 20000 in
theorem gX11_part_X8_findFrom : GoodIn wsX11_part (wsV RX11 150 RX8 yX8_findFrom wsX8_findFrom) := goodIn_app (goodIn_of _ (by decide +kernel)) ggX11_part_X8_findFrom
theorem dX11_part_0 : decode cX11_part 0 = .ok (.iload_n 1, 1) := by decide +kernel
theorem dX11_part_1 : decode cX11_part 1 = .ok (.aload_n 0, 1) := by decide +kernel
theorem dX11_part_2 : decode cX11_part 2 = .ok (.getfield 19, 3) := by decide +kernel
theorem dX11_part_5 : decode cX11_part 5 = .ok (.invokevirtual 69, 3) := by decide +kernel
theorem dX11_part_8 : decode cX11_part 8 = .ok (.invokestatic 103, 3) := by decide +kernel
theorem dX11_part_11 : decode cX11_part 11 = .ok (.iload_n 2, 1) := by decide +kernel
theorem dX11_part_12 : decode cX11_part 12 = .ok (.iconst 1, 1) := by decide +kernel
theorem dX11_part_13 : decode cX11_part 13 = .ok (.bipush 64, 2) := by decide +kernel
theorem dX11_part_15 : decode cX11_part 15 = .ok (.invokestatic 65, 3) := by decide +kernel
theorem dX11_part_18 : decode cX11_part 18 = .ok (.iload_n 3, 1) := by decide +kernel
theorem dX11_part_19 : decode cX11_part 19 = .ok (.bipush 60, 2) := by decide +kernel
theorem dX11_part_21 : decode cX11_part 21 = .ok (.sipush 240, 3) := by decide +kernel
theorem dX11_part_24 : decode cX11_part 24 = .ok (.invokestatic 65, 3) := by decide +kernel
theorem dX11_part_27 : decode cX11_part 27 = .ok (.aload_n 0, 1) := by decide +kernel
theorem dX11_part_28 : decode cX11_part 28 = .ok (.getfield 26, 3) := by decide +kernel
theorem dX11_part_31 : decode cX11_part 31 = .ok (.invokevirtual 134, 3) := by decide +kernel
theorem dX11_part_34 : decode cX11_part 34 = .ok (.bipush 12, 2) := by decide +kernel
theorem dX11_part_36 : decode cX11_part 36 = .ok (.if_icmp .lt 13, 3) := by decide +kernel
theorem dX11_part_39 : decode cX11_part 39 = .ok (.new 73, 3) := by decide +kernel
theorem dX11_part_42 : decode cX11_part 42 = .ok (.dup, 1) := by decide +kernel
theorem dX11_part_43 : decode cX11_part 43 = .ok (.ldc 135, 2) := by decide +kernel
theorem dX11_part_45 : decode cX11_part 45 = .ok (.invokespecial 77, 3) := by decide +kernel
theorem dX11_part_48 : decode cX11_part 48 = .ok (.athrow, 1) := by decide +kernel
theorem dX11_part_49 : decode cX11_part 49 = .ok (.aload_n 0, 1) := by decide +kernel
theorem dX11_part_50 : decode cX11_part 50 = .ok (.getfield 26, 3) := by decide +kernel
theorem dX11_part_53 : decode cX11_part 53 = .ok (.invokevirtual 137, 3) := by decide +kernel
theorem dX11_part_56 : decode cX11_part 56 = .ok (.istore 5, 2) := by decide +kernel
theorem dX11_part_58 : decode cX11_part 58 = .ok (.aload_n 0, 1) := by decide +kernel
theorem dX11_part_59 : decode cX11_part 59 = .ok (.getfield 26, 3) := by decide +kernel
theorem dX11_part_62 : decode cX11_part 62 = .ok (.iload 5, 2) := by decide +kernel
theorem dX11_part_64 : decode cX11_part 64 = .ok (.invokevirtual 140, 3) := by decide +kernel
theorem dX11_part_67 : decode cX11_part 67 = .ok (.iload_n 1, 1) := by decide +kernel
theorem dX11_part_68 : decode cX11_part 68 = .ok (.iload_n 2, 1) := by decide +kernel
theorem dX11_part_69 : decode cX11_part 69 = .ok (.iload_n 3, 1) := by decide +kernel
theorem dX11_part_70 : decode cX11_part 70 = .ok (.iload 4, 2) := by decide +kernel
theorem dX11_part_72 : decode cX11_part 72 = .ok (.invokevirtual 144, 3) := by decide +kernel
theorem dX11_part_75 : decode cX11_part 75 = .ok (.aload_n 0, 1) := by decide +kernel
theorem dX11_part_76 : decode cX11_part 76 = .ok (.getfield 26, 3) := by decide +kernel
theorem dX11_part_79 : decode cX11_part 79 = .ok (.iload 5, 2) := by decide +kernel
theorem dX11_part_81 : decode cX11_part 81 = .ok (.aload_n 0, 1) := by decide +kernel
theorem dX11_part_82 : decode cX11_part 82 = .ok (.getfield 19, 3) := by decide +kernel
theorem dX11_part_85 : decode cX11_part 85 = .ok (.aload_n 0, 1) := by decide +kernel
theorem dX11_part_86 : decode cX11_part 86 = .ok (.getfield 10, 3) := by decide +kernel
theorem dX11_part_89 : decode cX11_part 89 = .ok (.invokevirtual 119, 3) := by decide +kernel
theorem dX11_part_92 : decode cX11_part 92 = .ok (.invokevirtual 150, 3) := by decide +kernel
theorem dX11_part_95 : decode cX11_part 95 = .ok (.iload 5, 2) := by decide +kernel
theorem dX11_part_97 : decode cX11_part 97 = .ok (.ireturn, 1) := by decide +kernel
theorem twX11_part_39 : ∀ w ∈ (vx_atS RX11 77 (dEx 2) dNms).filter (fun w => !goodWord w), w ∈ [Cond.declares (Bundle.initS "java/lang/RuntimeException"), Cond.declares (Bundle.initS "java/lang/Exception"), Cond.declares (Bundle.initS Bundle.tN), Cond.castable (dEx 2) (dEx 2)] := by decide +kernel
theorem toX11_part_39 : ∀ w ∈ Cond.classLink RX11 73 (dEx 2) :: Cond.initialized (dEx 2) :: vx_atS RX11 77 (dEx 2) dNms, vx_ot w = true := by decide +kernel
def fX11_part (m : dM) (p0 : Nat) (p1 : Int32) (p2 : Int32) (p3 : Int32) (p4 : Int32) : Option ((Nat × dM) ⊕ (Int32 × dM)) := dg (dkg p0 12) ((fX7_number m 6).bind (fun v2 => (fX11_needIndex m p1 v2).bind (fun q => dS q (fun x => some (.inl x)) (fun m4 => (fX11_needRange m4 p2 1 64).bind (fun q => dS q (fun x => some (.inl x)) (fun m8 => (fX11_needRange m8 p3 60 240).bind (fun q => dS q (fun x => some (.inl x)) (fun m12 => (fX8_number m12 47).bind (fun v16 => if v16 < 12 then (fX8_grow m12 47).bind (fun q => dP2 q (fun v19 m18 => (fX8_numbered m18 47 v19).bind (fun v21 => dg (dkg v21 6) ((fX5_tell m18 v21 p1 p2 p3 p4).bind (fun m24 => (fX1_number m24 1).bind (fun v26 => (fX8_findFrom m24 47 v19 6 v26).bind (fun m28 => some (.inr (v19, m28))))))))) else some (.inl (2, m12)))))))))))
set_option maxHeartbeats 4000000 in
set_option maxRecDepth 100000 in
theorem kX11_part (l : Launch) (g : dG) (hst : l.stackTraces = false) {m : dM} {p0 : Nat} {p1 : Int32} {p2 : Int32} {p3 : Int32} {p4 : Int32} {o : ((Nat × dM) ⊕ (Int32 × dM))} (h : fX11_part m p0 p1 p2 p3 p4 = some o) : dXMet l g yX11_part wsX11_part 7 141 4 [.ref (dad g p0), .int p1, .int p2, .int p3, .int p4] m o (dXI g o) := by
  refine dxof (cc := cX11_part) (maxL := 6) (ret := (some .int)) _ (by decide) rfl (Nat.le_of_ble_eq_true rfl) ?_
  intro p e s mth below meth c S hr hlk hnt hE H ls hP hS hl
  have S : CallFix p mth c cX11_part 6 s _ wsX11_part RX11 := S
  have hl : lv_has ls 6 [(0, .ref (dad g p0)), (1, .int p1), (2, .int p2), (3, .int p3), (4, .int p4)] := hl
  obtain ⟨locs, hlocs⟩ : ∃ z : List Loc, z = [] := ⟨_, rfl⟩
  rw [← hlocs] at hS ⊢
  have in11 : ∀ w ∈ wsX110, w ∈ wsX11_part := by decide +kernel
  unfold fX11_part at h
  obtain ⟨k0, h⟩ := d_g h
  have k0 := d_k k0
  refine lv_iload_n S.1 S.2.1 dX11_part_0 rfl (lv_at hl 1 rfl) ?_
  refine lv_aload_n S.1 S.2.1 dX11_part_1 rfl (lv_at hl 0 rfl) ?_
  refine dgf11_1 S in11 hE hP k0 (S.2.2.2.2 (.fieldLink RX11 19 "DrillField" "sets" "LDrillField$Sets;") (List.mem_of_getElem? (i := 3) rfl)) dX11_part_2 ?_
  obtain ⟨v2, hc1, h⟩ := d_b h
  refine dri (va_runV (As := []) (rest := [.int p1]) S (kX7_number l g hc1) (cwV 0 S.2.2.2.2 gX11_part_X7_number rfl rfl rfl ynX7_number ⟨Nat.le_of_ble_eq_true rfl, Nat.le_of_ble_eq_true rfl⟩) (dpV hE hP hS (ci := 7) rfl (dat8 dk_6)) rfl rfl hl.1 rfl (lv_room (Nat.le_of_ble_eq_true rfl)) dX11_part_5 ⟨Nat.le_of_ble_eq_true rfl, Nat.le_of_ble_eq_true rfl⟩) hS (fun H locs hP hS => ?_)
  obtain ⟨q5, hc3, h⟩ := d_b h
  refine dxrv (o := q5) (vx_runS (As := [.int p1, .int v2]) (rest := []) S (kX11_needIndex l g hst hc3) (va_cwS 2 S.2.2.2.2 gX11_part_X11_needIndex rfl rfl rfl ynX11_needIndex ⟨Nat.le_of_ble_eq_true rfl, Nat.le_of_ble_eq_true rfl⟩) (dpS hE hP hS) rfl rfl hl.1 rfl (lv_room (Nat.le_of_ble_eq_true rfl)) dX11_part_8 ⟨Nat.le_of_ble_eq_true rfl, Nat.le_of_ble_eq_true rfl⟩) hS (fun u6 q9 ce H locs eo hP hS h1 h2 h3 => ?_) (fun m4 H locs eo hP hS => ?_)
  · subst eo
    have h := d_s1 h
    obtain rfl := Option.some.inj h
    exact dxout rfl hnt hlk hP hS h1 h2 h3 (Nat.le_of_ble_eq_true rfl) (Nat.le_of_ble_eq_true rfl)
  · subst eo
    have h := d_s2 h
    refine lv_iload_n S.1 S.2.1 dX11_part_11 rfl (lv_at hl 2 rfl) ?_
    refine lv_iconst (v := 1) S.1 S.2.1 dX11_part_12 (by decide) ?_
    refine lv_bipush (v := 64) S.1 S.2.1 dX11_part_13 (by decide) ?_
    obtain ⟨q9, hc7, h⟩ := d_b h
    refine dxrv (o := q9) (vx_runS (As := [.int p2, .int 1, .int 64]) (rest := []) S (kX11_needRange l g hst hc7) (va_cwS 3 S.2.2.2.2 gX11_part_X11_needRange rfl rfl rfl ynX11_needRange ⟨Nat.le_of_ble_eq_true rfl, Nat.le_of_ble_eq_true rfl⟩) (dpS hE hP hS) rfl rfl hl.1 rfl (lv_room (Nat.le_of_ble_eq_true rfl)) dX11_part_15 ⟨Nat.le_of_ble_eq_true rfl, Nat.le_of_ble_eq_true rfl⟩) hS (fun u10 q9 ce H locs eo hP hS h1 h2 h3 => ?_) (fun m8 H locs eo hP hS => ?_)
    · subst eo
      have h := d_s1 h
      obtain rfl := Option.some.inj h
      exact dxout rfl hnt hlk hP hS h1 h2 h3 (Nat.le_of_ble_eq_true rfl) (Nat.le_of_ble_eq_true rfl)
    · subst eo
      have h := d_s2 h
      refine lv_iload_n S.1 S.2.1 dX11_part_18 rfl (lv_at hl 3 rfl) ?_
      refine lv_bipush (v := 60) S.1 S.2.1 dX11_part_19 (by decide) ?_
      refine lv_sipush (v := 240) S.1 S.2.1 dX11_part_21 (by decide) ?_
      obtain ⟨q13, hc11, h⟩ := d_b h
      refine dxrv (o := q13) (vx_runS (As := [.int p3, .int 60, .int 240]) (rest := []) S (kX11_needRange l g hst hc11) (va_cwS 3 S.2.2.2.2 gX11_part_X11_needRange rfl rfl rfl ynX11_needRange ⟨Nat.le_of_ble_eq_true rfl, Nat.le_of_ble_eq_true rfl⟩) (dpS hE hP hS) rfl rfl hl.1 rfl (lv_room (Nat.le_of_ble_eq_true rfl)) dX11_part_24 ⟨Nat.le_of_ble_eq_true rfl, Nat.le_of_ble_eq_true rfl⟩) hS (fun u14 q9 ce H locs eo hP hS h1 h2 h3 => ?_) (fun m12 H locs eo hP hS => ?_)
      · subst eo
        have h := d_s1 h
        obtain rfl := Option.some.inj h
        exact dxout rfl hnt hlk hP hS h1 h2 h3 (Nat.le_of_ble_eq_true rfl) (Nat.le_of_ble_eq_true rfl)
      · subst eo
        have h := d_s2 h
        refine lv_aload_n S.1 S.2.1 dX11_part_27 rfl (lv_at hl 0 rfl) ?_
        refine dgf11_2 S in11 hE hP k0 (S.2.2.2.2 (.fieldLink RX11 26 "DrillField" "show" "LDrillField$Show;") (List.mem_of_getElem? (i := 4) rfl)) dX11_part_28 ?_
        obtain ⟨v16, hc15, h⟩ := d_b h
        refine dri (va_runV (As := []) (rest := []) S (kX8_number l g hc15) (cwV 0 S.2.2.2.2 gX11_part_X8_number rfl rfl rfl ynX8_number ⟨Nat.le_of_ble_eq_true rfl, Nat.le_of_ble_eq_true rfl⟩) (dpV hE hP hS (ci := 8) rfl (dat9 dk_47)) rfl rfl hl.1 rfl (lv_room (Nat.le_of_ble_eq_true rfl)) dX11_part_31 ⟨Nat.le_of_ble_eq_true rfl, Nat.le_of_ble_eq_true rfl⟩) hS (fun H locs hP hS => ?_)
        refine lv_bipush (v := 12) S.1 S.2.1 dX11_part_34 (by decide) ?_
        refine lv_icmp_lt (tgt := 49) S.1 S.2.1 dX11_part_36 (by decide) (fun cq => ?_) (fun cq => ?_)
        · have h := d_t cq h
          refine lv_aload_n S.1 S.2.1 dX11_part_49 rfl (lv_at hl 0 rfl) ?_
          refine dgf11_2 S in11 hE hP k0 (S.2.2.2.2 (.fieldLink RX11 26 "DrillField" "show" "LDrillField$Show;") (List.mem_of_getElem? (i := 4) rfl)) dX11_part_50 ?_
          obtain ⟨⟨v19, m18⟩, hc17, h⟩ := d_b h
          have h := d_p2 h
          refine dri (va_runV (As := []) (rest := []) S (kX8_grow l g hc17) (cwV 0 S.2.2.2.2 gX11_part_X8_grow rfl rfl rfl ynX8_grow ⟨Nat.le_of_ble_eq_true rfl, Nat.le_of_ble_eq_true rfl⟩) (dpV hE hP hS (ci := 8) rfl (dat9 dk_47)) rfl rfl hl.1 rfl (lv_room (Nat.le_of_ble_eq_true rfl)) dX11_part_53 ⟨Nat.le_of_ble_eq_true rfl, Nat.le_of_ble_eq_true rfl⟩) hS (fun H locs hP hS => ?_)
          refine lv_istore (lv' := [(5, .int v19), (0, .ref (dad g p0)), (1, .int p1), (2, .int p2), (3, .int p3), (4, .int p4)]) S.1 S.2.1 dX11_part_56 hl (by decide) rfl (fun ls hl => ?_)
          refine lv_aload_n S.1 S.2.1 dX11_part_58 rfl (lv_at hl 1 rfl) ?_
          refine dgf11_2 S in11 hE hP k0 (S.2.2.2.2 (.fieldLink RX11 26 "DrillField" "show" "LDrillField$Show;") (List.mem_of_getElem? (i := 4) rfl)) dX11_part_59 ?_
          refine lv_iload S.1 S.2.1 dX11_part_62 (lv_at hl 0 rfl) ?_
          obtain ⟨v21, hc20, h⟩ := d_b h
          obtain ⟨hk22, h⟩ := d_g h
          have hk22 := d_k hk22
          refine drr (va_runV (As := [.int v19]) (rest := []) S (kX8_numbered l g hc20) (cwV 1 S.2.2.2.2 gX11_part_X8_numbered rfl rfl rfl ynX8_numbered ⟨Nat.le_of_ble_eq_true rfl, Nat.le_of_ble_eq_true rfl⟩) (dpV hE hP hS (ci := 8) rfl (dat9 dk_47)) rfl rfl hl.1 rfl (lv_room (Nat.le_of_ble_eq_true rfl)) dX11_part_64 ⟨Nat.le_of_ble_eq_true rfl, Nat.le_of_ble_eq_true rfl⟩) hS (fun H locs hP hS => ?_)
          refine lv_iload_n S.1 S.2.1 dX11_part_67 rfl (lv_at hl 2 rfl) ?_
          refine lv_iload_n S.1 S.2.1 dX11_part_68 rfl (lv_at hl 3 rfl) ?_
          refine lv_iload_n S.1 S.2.1 dX11_part_69 rfl (lv_at hl 4 rfl) ?_
          refine lv_iload S.1 S.2.1 dX11_part_70 (lv_at hl 5 rfl) ?_
          obtain ⟨m24, hc23, h⟩ := d_b h
          refine drv (va_runV (As := [.int p1, .int p2, .int p3, .int p4]) (rest := []) S (kX5_tell l g hc23) (cwV 4 S.2.2.2.2 gX11_part_X5_tell rfl rfl rfl ynX5_tell ⟨Nat.le_of_ble_eq_true rfl, Nat.le_of_ble_eq_true rfl⟩) (dpV hE hP hS (ci := 5) rfl (dat6 hk22)) rfl rfl hl.1 rfl (lv_room (Nat.le_of_ble_eq_true rfl)) dX11_part_72 ⟨Nat.le_of_ble_eq_true rfl, Nat.le_of_ble_eq_true rfl⟩) hS (fun H locs hP hS => ?_)
          refine lv_aload_n S.1 S.2.1 dX11_part_75 rfl (lv_at hl 1 rfl) ?_
          refine dgf11_2 S in11 hE hP k0 (S.2.2.2.2 (.fieldLink RX11 26 "DrillField" "show" "LDrillField$Show;") (List.mem_of_getElem? (i := 4) rfl)) dX11_part_76 ?_
          refine lv_iload S.1 S.2.1 dX11_part_79 (lv_at hl 0 rfl) ?_
          refine lv_aload_n S.1 S.2.1 dX11_part_81 rfl (lv_at hl 1 rfl) ?_
          refine dgf11_1 S in11 hE hP k0 (S.2.2.2.2 (.fieldLink RX11 19 "DrillField" "sets" "LDrillField$Sets;") (List.mem_of_getElem? (i := 3) rfl)) dX11_part_82 ?_
          refine lv_aload_n S.1 S.2.1 dX11_part_85 rfl (lv_at hl 1 rfl) ?_
          refine dgf11_0 S in11 hE hP k0 (S.2.2.2.2 (.fieldLink RX11 10 "DrillField" "dots" "LDrillField$Dots;") (List.mem_of_getElem? (i := 5) rfl)) dX11_part_86 ?_
          obtain ⟨v26, hc25, h⟩ := d_b h
          refine dri (va_runV (As := []) (rest := [.ref (dad g 6), .int v19, .ref (dad g 47)]) S (kX1_number l g hc25) (cwV 0 S.2.2.2.2 gX11_part_X1_number rfl rfl rfl ynX1_number ⟨Nat.le_of_ble_eq_true rfl, Nat.le_of_ble_eq_true rfl⟩) (dpV hE hP hS (ci := 1) rfl (dat2 dk_1)) rfl rfl hl.1 rfl (lv_room (Nat.le_of_ble_eq_true rfl)) dX11_part_89 ⟨Nat.le_of_ble_eq_true rfl, Nat.le_of_ble_eq_true rfl⟩) hS (fun H locs hP hS => ?_)
          obtain ⟨m28, hc27, h⟩ := d_b h
          refine drv (va_runV (As := [.int v19, .ref (dad g 6), .int v26]) (rest := []) S (kX8_findFrom l g hc27) (cwV 3 S.2.2.2.2 gX11_part_X8_findFrom rfl rfl rfl ynX8_findFrom ⟨Nat.le_of_ble_eq_true rfl, Nat.le_of_ble_eq_true rfl⟩) (dpV hE hP hS (ci := 8) rfl (dat9 dk_47)) rfl rfl hl.1 rfl (lv_room (Nat.le_of_ble_eq_true rfl)) dX11_part_92 ⟨Nat.le_of_ble_eq_true rfl, Nat.le_of_ble_eq_true rfl⟩) hS (fun H locs hP hS => ?_)
          refine lv_iload S.1 S.2.1 dX11_part_95 (lv_at hl 0 rfl) ?_
          obtain rfl := Option.some.inj h
          exact dxti rfl S hr hlk hE hP hS rfl (Nat.le_of_ble_eq_true rfl) (Nat.le_of_ble_eq_true rfl) dX11_part_97
        · have h := d_f cq h
          obtain rfl := Option.some.inj h
          exact dx_throwS (k := 2) (text := "there are 12 parts") rfl S hst hlk hnt hE hP hS (by decide) (by decide) hl.1 (S.2.2.2.2 (.classLink RX11 73 "java/lang/IllegalStateException") (List.mem_of_getElem? (i := 1) rfl)) (S.2.2.2.2 (.initialized "java/lang/IllegalStateException") (List.mem_of_getElem? (i := 2) rfl)) (by decide) (fun w hw => List.mem_cons_of_mem _ (List.mem_append_left _ (List.mem_append_left _ (List.mem_append_right _ hw)))) twX11_part_39 toX11_part_39 dX11_part_39 dX11_part_42 dX11_part_43 dX11_part_45 dX11_part_48 ⟨Nat.le_of_ble_eq_true rfl, Nat.le_of_ble_eq_true rfl, Nat.le_of_ble_eq_true rfl, Nat.le_of_ble_eq_true rfl⟩ (Nat.le_of_ble_eq_true rfl) (Nat.le_of_ble_eq_true rfl)
set_option maxRecDepth 20000 in
theorem ggX11_penalty_X11_needIndex : GoodIn wsX11_penalty wsX11_needIndex := goodIn_ca (goodIn_r _ [6, 7, 8, 9, 10, 5, 11] (by decide +kernel) (by decide +kernel)) (goodIn_sub (fun _ h => List.mem_cons_of_mem _ (List.mem_append_left _ (List.mem_append_right _ h))) (by decide +kernel))
set_option maxRecDepth 20000 in
theorem gX11_penalty_X11_needIndex : GoodIn wsX11_penalty (va_wsS RX11 103 yX11_needIndex wsX11_needIndex) := goodIn_app (goodIn_of _ (by decide +kernel)) ggX11_penalty_X11_needIndex
set_option maxRecDepth 20000 in
theorem ggX11_penalty_X11_needRange : GoodIn wsX11_penalty wsX11_needRange := goodIn_ca (goodIn_r _ [14, 15, 16, 9, 10, 5, 11] (by decide +kernel) (by decide +kernel)) (goodIn_sub (fun _ h => List.mem_cons_of_mem _ (List.mem_append_right _ h)) (by decide +kernel))
set_option maxRecDepth 20000 in
theorem gX11_penalty_X11_needRange : GoodIn wsX11_penalty (va_wsS RX11 65 yX11_needRange wsX11_needRange) := goodIn_app (goodIn_of _ (by decide +kernel)) ggX11_penalty_X11_needRange
set_option maxRecDepth 20000 in
theorem ggX11_penalty_X0_tellPenalty : GoodIn wsX11_penalty wsX0_tellPenalty := goodIn_r _ [21, 22, 10, 5, 11, 71, 72, 73, 74] (by decide +kernel) (by decide +kernel)
set_option maxRecDepth 20000 in
theorem gX11_penalty_X0_tellPenalty : GoodIn wsX11_penalty (wsV RX11 253 RX0 yX0_tellPenalty wsX0_tellPenalty) := goodIn_app (goodIn_of _ (by decide +kernel)) ggX11_penalty_X0_tellPenalty
set_option maxRecDepth 20000 in
theorem ggX11_penalty_X8_tenthsOfSeconds : GoodIn wsX11_penalty wsX8_tenthsOfSeconds := goodIn_r _ [27, 28, 29, 30, 31, 26, 32, 33, 34, 10, 5, 11, 35, 36, 37, 38, 39, 40, 41, 42, 43, 44, 45, 46, 47, 75, 76, 77, 78, 79, 80, 81, 82, 83, 84, 85] (by decide +kernel) (by decide +kernel)
set_option maxRecDepth 20000 in
theorem gX11_penalty_X8_tenthsOfSeconds : GoodIn wsX11_penalty (wsV RX11 241 RX8 yX8_tenthsOfSeconds wsX8_tenthsOfSeconds) := goodIn_app (goodIn_of _ (by decide +kernel)) ggX11_penalty_X8_tenthsOfSeconds
set_option maxRecDepth 20000 in
theorem ggX11_penalty_X0_points : GoodIn wsX11_penalty wsX0_points := goodIn_r _ [51, 52, 22, 53, 54, 55, 56, 10, 5, 11, 57, 58, 59, 20, 60, 61, 62, 42, 43, 44, 45, 46, 47, 71, 72, 73, 74] (by decide +kernel) (by decide +kernel)
set_option maxRecDepth 20000 in
theorem gX11_penalty_X0_points : GoodIn wsX11_penalty (wsV RX11 250 RX0 yX0_points wsX0_points) := goodIn_app (goodIn_of _ (by decide +kernel)) ggX11_penalty_X0_points
theorem dX11_penalty_0 : decode cX11_penalty 0 = .ok (.iload_n 1, 1) := by decide +kernel
theorem dX11_penalty_1 : decode cX11_penalty 1 = .ok (.bipush 6, 2) := by decide +kernel
theorem dX11_penalty_3 : decode cX11_penalty 3 = .ok (.invokestatic 103, 3) := by decide +kernel
theorem dX11_penalty_6 : decode cX11_penalty 6 = .ok (.iload_n 2, 1) := by decide +kernel
theorem dX11_penalty_7 : decode cX11_penalty 7 = .ok (.iconst 0, 1) := by decide +kernel
theorem dX11_penalty_8 : decode cX11_penalty 8 = .ok (.sipush 1000, 3) := by decide +kernel
theorem dX11_penalty_11 : decode cX11_penalty 11 = .ok (.invokestatic 65, 3) := by decide +kernel
theorem dX11_penalty_14 : decode cX11_penalty 14 = .ok (.aload_n 0, 1) := by decide +kernel
theorem dX11_penalty_15 : decode cX11_penalty 15 = .ok (.getfield 61, 3) := by decide +kernel
theorem dX11_penalty_18 : decode cX11_penalty 18 = .ok (.iload_n 1, 1) := by decide +kernel
theorem dX11_penalty_19 : decode cX11_penalty 19 = .ok (.iload_n 2, 1) := by decide +kernel
theorem dX11_penalty_20 : decode cX11_penalty 20 = .ok (.invokevirtual 253, 3) := by decide +kernel
theorem dX11_penalty_23 : decode cX11_penalty 23 = .ok (.aload_n 0, 1) := by decide +kernel
theorem dX11_penalty_24 : decode cX11_penalty 24 = .ok (.getfield 61, 3) := by decide +kernel
theorem dX11_penalty_27 : decode cX11_penalty 27 = .ok (.iload_n 1, 1) := by decide +kernel
theorem dX11_penalty_28 : decode cX11_penalty 28 = .ok (.aload_n 0, 1) := by decide +kernel
theorem dX11_penalty_29 : decode cX11_penalty 29 = .ok (.getfield 26, 3) := by decide +kernel
theorem dX11_penalty_32 : decode cX11_penalty 32 = .ok (.invokevirtual 241, 3) := by decide +kernel
theorem dX11_penalty_35 : decode cX11_penalty 35 = .ok (.invokevirtual 250, 3) := by decide +kernel
theorem dX11_penalty_38 : decode cX11_penalty 38 = .ok (.ireturn, 1) := by decide +kernel
def fX11_penalty (m : dM) (p0 : Nat) (p1 : Int32) (p2 : Int32) : Option ((Nat × dM) ⊕ (Int32 × dM)) := dg (dkg p0 12) ((fX11_needIndex m p1 6).bind (fun q => dS q (fun x => some (.inl x)) (fun m2 => (fX11_needRange m2 p2 0 1000).bind (fun q => dS q (fun x => some (.inl x)) (fun m6 => (fX0_tellPenalty m6 435 p1 p2).bind (fun m10 => (fX8_tenthsOfSeconds m10 47).bind (fun v12 => (fX0_points m10 435 p1 v12).bind (fun v14 => some (.inr (v14, m10))))))))))
set_option maxHeartbeats 4000000 in
set_option maxRecDepth 100000 in
theorem kX11_penalty (l : Launch) (g : dG) (hst : l.stackTraces = false) {m : dM} {p0 : Nat} {p1 : Int32} {p2 : Int32} {o : ((Nat × dM) ⊕ (Int32 × dM))} (h : fX11_penalty m p0 p1 p2 = some o) : dXMet l g yX11_penalty wsX11_penalty 7 112 2 [.ref (dad g p0), .int p1, .int p2] m o (dXI g o) := by
  refine dxof (cc := cX11_penalty) (maxL := 3) (ret := (some .int)) _ (by decide) rfl (Nat.le_of_ble_eq_true rfl) ?_
  intro p e s mth below meth c S hr hlk hnt hE H ls hP hS hl
  have S : CallFix p mth c cX11_penalty 3 s _ wsX11_penalty RX11 := S
  have hl : lv_has ls 3 [(0, .ref (dad g p0)), (1, .int p1), (2, .int p2)] := hl
  obtain ⟨locs, hlocs⟩ : ∃ z : List Loc, z = [] := ⟨_, rfl⟩
  rw [← hlocs] at hS ⊢
  have in11 : ∀ w ∈ wsX110, w ∈ wsX11_penalty := by decide +kernel
  unfold fX11_penalty at h
  obtain ⟨k0, h⟩ := d_g h
  have k0 := d_k k0
  refine lv_iload_n S.1 S.2.1 dX11_penalty_0 rfl (lv_at hl 1 rfl) ?_
  refine lv_bipush (v := 6) S.1 S.2.1 dX11_penalty_1 (by decide) ?_
  obtain ⟨q3, hc1, h⟩ := d_b h
  refine dxrv (o := q3) (vx_runS (As := [.int p1, .int 6]) (rest := []) S (kX11_needIndex l g hst hc1) (va_cwS 2 S.2.2.2.2 gX11_penalty_X11_needIndex rfl rfl rfl ynX11_needIndex ⟨Nat.le_of_ble_eq_true rfl, Nat.le_of_ble_eq_true rfl⟩) (dpS hE hP hS) rfl rfl hl.1 rfl (lv_room (Nat.le_of_ble_eq_true rfl)) dX11_penalty_3 ⟨Nat.le_of_ble_eq_true rfl, Nat.le_of_ble_eq_true rfl⟩) hS (fun u4 q9 ce H locs eo hP hS h1 h2 h3 => ?_) (fun m2 H locs eo hP hS => ?_)
  · subst eo
    have h := d_s1 h
    obtain rfl := Option.some.inj h
    exact dxout rfl hnt hlk hP hS h1 h2 h3 (Nat.le_of_ble_eq_true rfl) (Nat.le_of_ble_eq_true rfl)
  · subst eo
    have h := d_s2 h
    refine lv_iload_n S.1 S.2.1 dX11_penalty_6 rfl (lv_at hl 2 rfl) ?_
    refine lv_iconst (v := 0) S.1 S.2.1 dX11_penalty_7 (by decide) ?_
    refine lv_sipush (v := 1000) S.1 S.2.1 dX11_penalty_8 (by decide) ?_
    obtain ⟨q7, hc5, h⟩ := d_b h
    refine dxrv (o := q7) (vx_runS (As := [.int p2, .int 0, .int 1000]) (rest := []) S (kX11_needRange l g hst hc5) (va_cwS 3 S.2.2.2.2 gX11_penalty_X11_needRange rfl rfl rfl ynX11_needRange ⟨Nat.le_of_ble_eq_true rfl, Nat.le_of_ble_eq_true rfl⟩) (dpS hE hP hS) rfl rfl hl.1 rfl (lv_room (Nat.le_of_ble_eq_true rfl)) dX11_penalty_11 ⟨Nat.le_of_ble_eq_true rfl, Nat.le_of_ble_eq_true rfl⟩) hS (fun u8 q9 ce H locs eo hP hS h1 h2 h3 => ?_) (fun m6 H locs eo hP hS => ?_)
    · subst eo
      have h := d_s1 h
      obtain rfl := Option.some.inj h
      exact dxout rfl hnt hlk hP hS h1 h2 h3 (Nat.le_of_ble_eq_true rfl) (Nat.le_of_ble_eq_true rfl)
    · subst eo
      have h := d_s2 h
      refine lv_aload_n S.1 S.2.1 dX11_penalty_14 rfl (lv_at hl 0 rfl) ?_
      refine dgf11_7 S in11 hE hP k0 (S.2.2.2.2 (.fieldLink RX11 61 "DrillField" "contest" "LDrillField$Contest;") (List.mem_of_getElem? (i := 1) rfl)) dX11_penalty_15 ?_
      refine lv_iload_n S.1 S.2.1 dX11_penalty_18 rfl (lv_at hl 1 rfl) ?_
      refine lv_iload_n S.1 S.2.1 dX11_penalty_19 rfl (lv_at hl 2 rfl) ?_
      obtain ⟨m10, hc9, h⟩ := d_b h
      refine drv (va_runV (As := [.int p1, .int p2]) (rest := []) S (kX0_tellPenalty l g hc9) (cwV 2 S.2.2.2.2 gX11_penalty_X0_tellPenalty rfl rfl rfl ynX0_tellPenalty ⟨Nat.le_of_ble_eq_true rfl, Nat.le_of_ble_eq_true rfl⟩) (dpV hE hP hS (ci := 0) rfl (dat1 dk_435)) rfl rfl hl.1 rfl (lv_room (Nat.le_of_ble_eq_true rfl)) dX11_penalty_20 ⟨Nat.le_of_ble_eq_true rfl, Nat.le_of_ble_eq_true rfl⟩) hS (fun H locs hP hS => ?_)
      refine lv_aload_n S.1 S.2.1 dX11_penalty_23 rfl (lv_at hl 0 rfl) ?_
      refine dgf11_7 S in11 hE hP k0 (S.2.2.2.2 (.fieldLink RX11 61 "DrillField" "contest" "LDrillField$Contest;") (List.mem_of_getElem? (i := 1) rfl)) dX11_penalty_24 ?_
      refine lv_iload_n S.1 S.2.1 dX11_penalty_27 rfl (lv_at hl 1 rfl) ?_
      refine lv_aload_n S.1 S.2.1 dX11_penalty_28 rfl (lv_at hl 0 rfl) ?_
      refine dgf11_2 S in11 hE hP k0 (S.2.2.2.2 (.fieldLink RX11 26 "DrillField" "show" "LDrillField$Show;") (List.mem_of_getElem? (i := 2) rfl)) dX11_penalty_29 ?_
      obtain ⟨v12, hc11, h⟩ := d_b h
      refine dri (va_runV (As := []) (rest := [.int p1, .ref (dad g 435)]) S (kX8_tenthsOfSeconds l g hc11) (cwV 0 S.2.2.2.2 gX11_penalty_X8_tenthsOfSeconds rfl rfl rfl ynX8_tenthsOfSeconds ⟨Nat.le_of_ble_eq_true rfl, Nat.le_of_ble_eq_true rfl⟩) (dpV hE hP hS (ci := 8) rfl (dat9 dk_47)) rfl rfl hl.1 rfl (lv_room (Nat.le_of_ble_eq_true rfl)) dX11_penalty_32 ⟨Nat.le_of_ble_eq_true rfl, Nat.le_of_ble_eq_true rfl⟩) hS (fun H locs hP hS => ?_)
      obtain ⟨v14, hc13, h⟩ := d_b h
      refine dri (va_runV (As := [.int p1, .int v12]) (rest := []) S (kX0_points l g hc13) (cwV 2 S.2.2.2.2 gX11_penalty_X0_points rfl rfl rfl ynX0_points ⟨Nat.le_of_ble_eq_true rfl, Nat.le_of_ble_eq_true rfl⟩) (dpV hE hP hS (ci := 0) rfl (dat1 dk_435)) rfl rfl hl.1 rfl (lv_room (Nat.le_of_ble_eq_true rfl)) dX11_penalty_35 ⟨Nat.le_of_ble_eq_true rfl, Nat.le_of_ble_eq_true rfl⟩) hS (fun H locs hP hS => ?_)
      obtain rfl := Option.some.inj h
      exact dxti rfl S hr hlk hE hP hS rfl (Nat.le_of_ble_eq_true rfl) (Nat.le_of_ble_eq_true rfl) dX11_penalty_38
set_option maxRecDepth 20000 in
theorem ggX11_phase_X11_needPart : GoodIn wsX11_phase wsX11_needPart := goodIn_ca (goodIn_r _ [8, 1, 9, 10, 11, 12, 13, 14, 15, 16, 7, 17, 18, 19, 20, 21, 22, 110, 111, 112, 113, 114, 115, 116, 117, 118, 119, 120, 121] (by decide +kernel) (by decide +kernel)) (goodIn_sub (fun _ h => List.mem_cons_of_mem _ (List.mem_append_left _ (List.mem_append_right _ h))) (by decide +kernel))
set_option maxRecDepth 20000 in
theorem gX11_phase_X11_needPart : GoodIn wsX11_phase (wsV RX11 154 RX11 yX11_needPart wsX11_needPart) := goodIn_app (goodIn_of _ (by decide +kernel)) ggX11_phase_X11_needPart
set_option maxRecDepth 20000 in
theorem ggX11_phase_X8_numbered : GoodIn wsX11_phase wsX8_numbered := goodIn_r _ [26, 27, 28, 21, 7, 22, 118, 119, 120, 121] (by decide +kernel) (by decide +kernel)
set_option maxRecDepth 20000 in
theorem gX11_phase_X8_numbered : GoodIn wsX11_phase (wsV RX11 140 RX8 yX8_numbered wsX8_numbered) := goodIn_app (goodIn_of _ (by decide +kernel)) ggX11_phase_X8_numbered
set_option maxRecDepth 20000 in
theorem ggX11_phase_X5_counts : GoodIn wsX11_phase wsX5_counts := goodIn_r _ [33, 34, 122, 123, 124, 125, 126, 127, 128] (by decide +kernel) (by decide +kernel)
set_option maxRecDepth 20000 in
theorem gX11_phase_X5_counts : GoodIn wsX11_phase (wsV RX11 169 RX5 yX5_counts wsX5_counts) := goodIn_app (goodIn_of _ (by decide +kernel)) ggX11_phase_X5_counts
set_option maxRecDepth 20000 in
theorem ggX11_phase_X11_needRange : GoodIn wsX11_phase wsX11_needRange := goodIn_ca (goodIn_r _ [37, 38, 39, 20, 21, 7, 22] (by decide +kernel) (by decide +kernel)) (goodIn_sub (fun _ h => List.mem_cons_of_mem _ (List.mem_append_right _ h)) (by decide +kernel))
set_option maxRecDepth 20000 in
theorem gX11_phase_X11_needRange : GoodIn wsX11_phase (va_wsS RX11 65 yX11_needRange wsX11_needRange) := goodIn_app (goodIn_of _ (by decide +kernel)) ggX11_phase_X11_needRange
set_option maxRecDepth 20000 in
theorem ggX11_phase_X1_number : GoodIn wsX11_phase wsX1_number := goodIn_r _ [44, 45, 129, 130, 131, 132, 133] (by decide +kernel) (by decide +kernel)
set_option maxRecDepth 20000 in
theorem gX11_phase_X1_number : GoodIn wsX11_phase (wsV RX11 119 RX1 yX1_number wsX1_number) := goodIn_app (goodIn_of _ (by decide +kernel)) ggX11_phase_X1_number
set_option maxRecDepth 20000 in
theorem ggX11_phase_X5_stand : GoodIn wsX11_phase wsX5_stand := goodIn_r _ [49, 50, 51, 52, 32, 53, 54, 55, 34, 56, 57, 58, 59, 60, 61, 62, 7, 63, 64, 65, 66, 67, 68, 69, 70, 71, 72, 73, 74, 75, 76, 77, 78, 79, 80, 81, 82, 122, 123, 124, 125, 126, 127, 128, 134, 135] (by decide +kernel) (by decide +kernel)
set_option maxRecDepth 20000 in
theorem gX11_phase_X5_stand : GoodIn wsX11_phase (wsV RX11 200 RX5 yX5_stand wsX5_stand) := goodIn_app (goodIn_of _ (by decide +kernel)) ggX11_phase_X5_stand
set_option maxRecDepth 20000 in
theorem ggX11_phase_X11_soundApart : GoodIn wsX11_phase wsX11_soundApart := goodIn_r _ [86, 3, 2, 87, 88, 89, 90, 91, 92, 93, 40, 41, 42, 43, 44, 45, 94, 95, 96, 97, 98, 99, 100, 62, 7, 63, 101, 57, 58, 59, 60, 61, 102, 75, 76, 77, 78, 103, 104, 105, 106, 107, 108, 109, 64, 65, 66, 67, 68, 69, 110, 111, 112, 113, 114, 115, 116, 117, 129, 130, 131, 132, 133, 134, 135] (by decide +kernel) (by decide +kernel)
set_option maxRecDepth 20000 in
theorem gX11_phase_X11_soundApart : GoodIn wsX11_phase (wsV RX11 204 RX11 yX11_soundApart wsX11_soundApart) := goodIn_app (goodIn_of _ (by decide +kernel)) ggX11_phase_X11_soundApart
theorem dX11_phase_0 : decode cX11_phase 0 = .ok (.aload_n 0, 1) := by decide +kernel
theorem dX11_phase_1 : decode cX11_phase 1 = .ok (.iload_n 1, 1) := by decide +kernel
theorem dX11_phase_2 : decode cX11_phase 2 = .ok (.invokevirtual 154, 3) := by decide +kernel
theorem dX11_phase_5 : decode cX11_phase 5 = .ok (.aload_n 0, 1) := by decide +kernel
theorem dX11_phase_6 : decode cX11_phase 6 = .ok (.getfield 26, 3) := by decide +kernel
theorem dX11_phase_9 : decode cX11_phase 9 = .ok (.iload_n 1, 1) := by decide +kernel
theorem dX11_phase_10 : decode cX11_phase 10 = .ok (.invokevirtual 140, 3) := by decide +kernel
theorem dX11_phase_13 : decode cX11_phase 13 = .ok (.astore 5, 2) := by decide +kernel
theorem dX11_phase_15 : decode cX11_phase 15 = .ok (.iload_n 2, 1) := by decide +kernel
theorem dX11_phase_16 : decode cX11_phase 16 = .ok (.iconst 0, 1) := by decide +kernel
theorem dX11_phase_17 : decode cX11_phase 17 = .ok (.aload 5, 2) := by decide +kernel
theorem dX11_phase_19 : decode cX11_phase 19 = .ok (.invokevirtual 169, 3) := by decide +kernel
theorem dX11_phase_22 : decode cX11_phase 22 = .ok (.invokestatic 65, 3) := by decide +kernel
theorem dX11_phase_25 : decode cX11_phase 25 = .ok (.iload_n 3, 1) := by decide +kernel
theorem dX11_phase_26 : decode cX11_phase 26 = .ok (.iconst 0, 1) := by decide +kernel
theorem dX11_phase_27 : decode cX11_phase 27 = .ok (.sipush 1600, 3) := by decide +kernel
theorem dX11_phase_30 : decode cX11_phase 30 = .ok (.invokestatic 65, 3) := by decide +kernel
theorem dX11_phase_33 : decode cX11_phase 33 = .ok (.iload 4, 2) := by decide +kernel
theorem dX11_phase_35 : decode cX11_phase 35 = .ok (.sipush (-1000), 3) := by decide +kernel
theorem dX11_phase_38 : decode cX11_phase 38 = .ok (.iconst (-1), 1) := by decide +kernel
theorem dX11_phase_39 : decode cX11_phase 39 = .ok (.invokestatic 65, 3) := by decide +kernel
theorem dX11_phase_42 : decode cX11_phase 42 = .ok (.aload 5, 2) := by decide +kernel
theorem dX11_phase_44 : decode cX11_phase 44 = .ok (.iload_n 2, 1) := by decide +kernel
theorem dX11_phase_45 : decode cX11_phase 45 = .ok (.aload_n 0, 1) := by decide +kernel
theorem dX11_phase_46 : decode cX11_phase 46 = .ok (.getfield 47, 3) := by decide +kernel
theorem dX11_phase_49 : decode cX11_phase 49 = .ok (.aload_n 0, 1) := by decide +kernel
theorem dX11_phase_50 : decode cX11_phase 50 = .ok (.getfield 10, 3) := by decide +kernel
theorem dX11_phase_53 : decode cX11_phase 53 = .ok (.invokevirtual 119, 3) := by decide +kernel
theorem dX11_phase_56 : decode cX11_phase 56 = .ok (.invokevirtual 200, 3) := by decide +kernel
theorem dX11_phase_59 : decode cX11_phase 59 = .ok (.aload_n 0, 1) := by decide +kernel
theorem dX11_phase_60 : decode cX11_phase 60 = .ok (.iload_n 3, 1) := by decide +kernel
theorem dX11_phase_61 : decode cX11_phase 61 = .ok (.iload 4, 2) := by decide +kernel
theorem dX11_phase_63 : decode cX11_phase 63 = .ok (.invokevirtual 204, 3) := by decide +kernel
theorem dX11_phase_66 : decode cX11_phase 66 = .ok (.ireturn, 1) := by decide +kernel
def fX11_phase (m : dM) (p0 : Nat) (p1 : Int32) (p2 : Int32) (p3 : Int32) (p4 : Int32) : Option ((Nat × dM) ⊕ (Int32 × dM)) := dg (dkg p0 12) ((fX11_needPart m p0 p1).bind (fun q => dS q (fun x => some (.inl x)) (fun m2 => (fX8_numbered m2 47 p1).bind (fun v6 => dg (dkg v6 6) ((fX5_counts m2 v6).bind (fun v9 => (fX11_needRange m2 p2 0 v9).bind (fun q => dS q (fun x => some (.inl x)) (fun m11 => (fX11_needRange m11 p3 0 1600).bind (fun q => dS q (fun x => some (.inl x)) (fun m15 => (fX11_needRange m15 p4 (-1000) (-1)).bind (fun q => dS q (fun x => some (.inl x)) (fun m19 => (fX1_number m19 1).bind (fun v23 => (fX5_stand m19 v6 p2 391 v23).bind (fun m25 => (fX11_soundApart m25 p0 p3 p4).bind (fun v27 => some (.inr (v27, m25)))))))))))))))))
set_option maxHeartbeats 4000000 in
set_option maxRecDepth 100000 in
theorem kX11_phase (l : Launch) (g : dG) (hst : l.stackTraces = false) {m : dM} {p0 : Nat} {p1 : Int32} {p2 : Int32} {p3 : Int32} {p4 : Int32} {o : ((Nat × dM) ⊕ (Int32 × dM))} (h : fX11_phase m p0 p1 p2 p3 p4 = some o) : dXMet l g yX11_phase wsX11_phase 8 132 4 [.ref (dad g p0), .int p1, .int p2, .int p3, .int p4] m o (dXI g o) := by
  refine dxof (cc := cX11_phase) (maxL := 6) (ret := (some .int)) _ (by decide) rfl (Nat.le_of_ble_eq_true rfl) ?_
  intro p e s mth below meth c S hr hlk hnt hE H ls hP hS hl
  have S : CallFix p mth c cX11_phase 6 s _ wsX11_phase RX11 := S
  have hl : lv_has ls 6 [(0, .ref (dad g p0)), (1, .int p1), (2, .int p2), (3, .int p3), (4, .int p4)] := hl
  obtain ⟨locs, hlocs⟩ : ∃ z : List Loc, z = [] := ⟨_, rfl⟩
  rw [← hlocs] at hS ⊢
  have in11 : ∀ w ∈ wsX110, w ∈ wsX11_phase := by decide +kernel
  unfold fX11_phase at h
  obtain ⟨k0, h⟩ := d_g h
  have k0 := d_k k0
  refine lv_aload_n S.1 S.2.1 dX11_phase_0 rfl (lv_at hl 0 rfl) ?_
  refine lv_iload_n S.1 S.2.1 dX11_phase_1 rfl (lv_at hl 1 rfl) ?_
  obtain ⟨q3, hc1, h⟩ := d_b h
  refine dxrv (o := q3) (vx_runV (As := [.int p1]) (rest := []) S (kX11_needPart l g hst hc1) (cwV 1 S.2.2.2.2 gX11_phase_X11_needPart rfl rfl rfl ynX11_needPart ⟨Nat.le_of_ble_eq_true rfl, Nat.le_of_ble_eq_true rfl⟩) (dpV hE hP hS (ci := 11) rfl (dat12 k0)) rfl rfl hl.1 rfl (lv_room (Nat.le_of_ble_eq_true rfl)) dX11_phase_2 ⟨Nat.le_of_ble_eq_true rfl, Nat.le_of_ble_eq_true rfl⟩) hS (fun u4 q9 ce H locs eo hP hS h1 h2 h3 => ?_) (fun m2 H locs eo hP hS => ?_)
  · subst eo
    have h := d_s1 h
    obtain rfl := Option.some.inj h
    exact dxout rfl hnt hlk hP hS h1 h2 h3 (Nat.le_of_ble_eq_true rfl) (Nat.le_of_ble_eq_true rfl)
  · subst eo
    have h := d_s2 h
    refine lv_aload_n S.1 S.2.1 dX11_phase_5 rfl (lv_at hl 0 rfl) ?_
    refine dgf11_2 S in11 hE hP k0 (S.2.2.2.2 (.fieldLink RX11 26 "DrillField" "show" "LDrillField$Show;") (List.mem_of_getElem? (i := 1) rfl)) dX11_phase_6 ?_
    refine lv_iload_n S.1 S.2.1 dX11_phase_9 rfl (lv_at hl 1 rfl) ?_
    obtain ⟨v6, hc5, h⟩ := d_b h
    obtain ⟨hk7, h⟩ := d_g h
    have hk7 := d_k hk7
    refine drr (va_runV (As := [.int p1]) (rest := []) S (kX8_numbered l g hc5) (cwV 1 S.2.2.2.2 gX11_phase_X8_numbered rfl rfl rfl ynX8_numbered ⟨Nat.le_of_ble_eq_true rfl, Nat.le_of_ble_eq_true rfl⟩) (dpV hE hP hS (ci := 8) rfl (dat9 dk_47)) rfl rfl hl.1 rfl (lv_room (Nat.le_of_ble_eq_true rfl)) dX11_phase_10 ⟨Nat.le_of_ble_eq_true rfl, Nat.le_of_ble_eq_true rfl⟩) hS (fun H locs hP hS => ?_)
    refine lv_astore (lv' := [(5, .ref (dad g v6)), (0, .ref (dad g p0)), (1, .int p1), (2, .int p2), (3, .int p3), (4, .int p4)]) S.1 S.2.1 dX11_phase_13 hl (by decide) rfl (fun ls hl => ?_)
    refine lv_iload_n S.1 S.2.1 dX11_phase_15 rfl (lv_at hl 3 rfl) ?_
    refine lv_iconst (v := 0) S.1 S.2.1 dX11_phase_16 (by decide) ?_
    refine lv_aload S.1 S.2.1 dX11_phase_17 (lv_at hl 0 rfl) ?_
    obtain ⟨v9, hc8, h⟩ := d_b h
    refine dri (va_runV (As := []) (rest := [.int 0, .int p2]) S (kX5_counts l g hc8) (cwV 0 S.2.2.2.2 gX11_phase_X5_counts rfl rfl rfl ynX5_counts ⟨Nat.le_of_ble_eq_true rfl, Nat.le_of_ble_eq_true rfl⟩) (dpV hE hP hS (ci := 5) rfl (dat6 hk7)) rfl rfl hl.1 rfl (lv_room (Nat.le_of_ble_eq_true rfl)) dX11_phase_19 ⟨Nat.le_of_ble_eq_true rfl, Nat.le_of_ble_eq_true rfl⟩) hS (fun H locs hP hS => ?_)
    obtain ⟨q12, hc10, h⟩ := d_b h
    refine dxrv (o := q12) (vx_runS (As := [.int p2, .int 0, .int v9]) (rest := []) S (kX11_needRange l g hst hc10) (va_cwS 3 S.2.2.2.2 gX11_phase_X11_needRange rfl rfl rfl ynX11_needRange ⟨Nat.le_of_ble_eq_true rfl, Nat.le_of_ble_eq_true rfl⟩) (dpS hE hP hS) rfl rfl hl.1 rfl (lv_room (Nat.le_of_ble_eq_true rfl)) dX11_phase_22 ⟨Nat.le_of_ble_eq_true rfl, Nat.le_of_ble_eq_true rfl⟩) hS (fun u13 q9 ce H locs eo hP hS h1 h2 h3 => ?_) (fun m11 H locs eo hP hS => ?_)
    · subst eo
      have h := d_s1 h
      obtain rfl := Option.some.inj h
      exact dxout rfl hnt hlk hP hS h1 h2 h3 (Nat.le_of_ble_eq_true rfl) (Nat.le_of_ble_eq_true rfl)
    · subst eo
      have h := d_s2 h
      refine lv_iload_n S.1 S.2.1 dX11_phase_25 rfl (lv_at hl 4 rfl) ?_
      refine lv_iconst (v := 0) S.1 S.2.1 dX11_phase_26 (by decide) ?_
      refine lv_sipush (v := 1600) S.1 S.2.1 dX11_phase_27 (by decide) ?_
      obtain ⟨q16, hc14, h⟩ := d_b h
      refine dxrv (o := q16) (vx_runS (As := [.int p3, .int 0, .int 1600]) (rest := []) S (kX11_needRange l g hst hc14) (va_cwS 3 S.2.2.2.2 gX11_phase_X11_needRange rfl rfl rfl ynX11_needRange ⟨Nat.le_of_ble_eq_true rfl, Nat.le_of_ble_eq_true rfl⟩) (dpS hE hP hS) rfl rfl hl.1 rfl (lv_room (Nat.le_of_ble_eq_true rfl)) dX11_phase_30 ⟨Nat.le_of_ble_eq_true rfl, Nat.le_of_ble_eq_true rfl⟩) hS (fun u17 q9 ce H locs eo hP hS h1 h2 h3 => ?_) (fun m15 H locs eo hP hS => ?_)
      · subst eo
        have h := d_s1 h
        obtain rfl := Option.some.inj h
        exact dxout rfl hnt hlk hP hS h1 h2 h3 (Nat.le_of_ble_eq_true rfl) (Nat.le_of_ble_eq_true rfl)
      · subst eo
        have h := d_s2 h
        refine lv_iload S.1 S.2.1 dX11_phase_33 (lv_at hl 5 rfl) ?_
        refine lv_sipush (v := (-1000)) S.1 S.2.1 dX11_phase_35 (by decide) ?_
        refine lv_iconst (v := (-1)) S.1 S.2.1 dX11_phase_38 (by decide) ?_
        obtain ⟨q20, hc18, h⟩ := d_b h
        refine dxrv (o := q20) (vx_runS (As := [.int p4, .int (-1000), .int (-1)]) (rest := []) S (kX11_needRange l g hst hc18) (va_cwS 3 S.2.2.2.2 gX11_phase_X11_needRange rfl rfl rfl ynX11_needRange ⟨Nat.le_of_ble_eq_true rfl, Nat.le_of_ble_eq_true rfl⟩) (dpS hE hP hS) rfl rfl hl.1 rfl (lv_room (Nat.le_of_ble_eq_true rfl)) dX11_phase_39 ⟨Nat.le_of_ble_eq_true rfl, Nat.le_of_ble_eq_true rfl⟩) hS (fun u21 q9 ce H locs eo hP hS h1 h2 h3 => ?_) (fun m19 H locs eo hP hS => ?_)
        · subst eo
          have h := d_s1 h
          obtain rfl := Option.some.inj h
          exact dxout rfl hnt hlk hP hS h1 h2 h3 (Nat.le_of_ble_eq_true rfl) (Nat.le_of_ble_eq_true rfl)
        · subst eo
          have h := d_s2 h
          refine lv_aload S.1 S.2.1 dX11_phase_42 (lv_at hl 0 rfl) ?_
          refine lv_iload_n S.1 S.2.1 dX11_phase_44 rfl (lv_at hl 3 rfl) ?_
          refine lv_aload_n S.1 S.2.1 dX11_phase_45 rfl (lv_at hl 1 rfl) ?_
          refine dgf11_5 S in11 hE hP k0 (S.2.2.2.2 (.fieldLink RX11 47 "DrillField" "sounding" "LDrillField$Spots;") (List.mem_of_getElem? (i := 2) rfl)) dX11_phase_46 ?_
          refine lv_aload_n S.1 S.2.1 dX11_phase_49 rfl (lv_at hl 1 rfl) ?_
          refine dgf11_0 S in11 hE hP k0 (S.2.2.2.2 (.fieldLink RX11 10 "DrillField" "dots" "LDrillField$Dots;") (List.mem_of_getElem? (i := 3) rfl)) dX11_phase_50 ?_
          obtain ⟨v23, hc22, h⟩ := d_b h
          refine dri (va_runV (As := []) (rest := [.ref (dad g 391), .int p2, .ref (dad g v6)]) S (kX1_number l g hc22) (cwV 0 S.2.2.2.2 gX11_phase_X1_number rfl rfl rfl ynX1_number ⟨Nat.le_of_ble_eq_true rfl, Nat.le_of_ble_eq_true rfl⟩) (dpV hE hP hS (ci := 1) rfl (dat2 dk_1)) rfl rfl hl.1 rfl (lv_room (Nat.le_of_ble_eq_true rfl)) dX11_phase_53 ⟨Nat.le_of_ble_eq_true rfl, Nat.le_of_ble_eq_true rfl⟩) hS (fun H locs hP hS => ?_)
          obtain ⟨m25, hc24, h⟩ := d_b h
          refine drv (va_runV (As := [.int p2, .ref (dad g 391), .int v23]) (rest := []) S (kX5_stand l g hc24) (cwV 3 S.2.2.2.2 gX11_phase_X5_stand rfl rfl rfl ynX5_stand ⟨Nat.le_of_ble_eq_true rfl, Nat.le_of_ble_eq_true rfl⟩) (dpV hE hP hS (ci := 5) rfl (dat6 hk7)) rfl rfl hl.1 rfl (lv_room (Nat.le_of_ble_eq_true rfl)) dX11_phase_56 ⟨Nat.le_of_ble_eq_true rfl, Nat.le_of_ble_eq_true rfl⟩) hS (fun H locs hP hS => ?_)
          refine lv_aload_n S.1 S.2.1 dX11_phase_59 rfl (lv_at hl 1 rfl) ?_
          refine lv_iload_n S.1 S.2.1 dX11_phase_60 rfl (lv_at hl 4 rfl) ?_
          refine lv_iload S.1 S.2.1 dX11_phase_61 (lv_at hl 5 rfl) ?_
          obtain ⟨v27, hc26, h⟩ := d_b h
          refine dri (va_runV (As := [.int p3, .int p4]) (rest := []) S (kX11_soundApart l g hc26) (cwV 2 S.2.2.2.2 gX11_phase_X11_soundApart rfl rfl rfl ynX11_soundApart ⟨Nat.le_of_ble_eq_true rfl, Nat.le_of_ble_eq_true rfl⟩) (dpV hE hP hS (ci := 11) rfl (dat12 k0)) rfl rfl hl.1 rfl (lv_room (Nat.le_of_ble_eq_true rfl)) dX11_phase_63 ⟨Nat.le_of_ble_eq_true rfl, Nat.le_of_ble_eq_true rfl⟩) hS (fun H locs hP hS => ?_)
          obtain rfl := Option.some.inj h
          exact dxti rfl S hr hlk hE hP hS rfl (Nat.le_of_ble_eq_true rfl) (Nat.le_of_ble_eq_true rfl) dX11_phase_66
set_option maxRecDepth 20000 in
theorem ggX11_place_X11_needPart : GoodIn wsX11_place wsX11_needPart := goodIn_ca (goodIn_r _ [6, 1, 7, 8, 9, 10, 11, 12, 13, 14, 5, 15, 16, 17, 18, 19, 20, 46, 47, 48, 49, 50, 51, 52, 53, 54, 55, 56, 57] (by decide +kernel) (by decide +kernel)) (goodIn_sub (fun _ h => List.mem_cons_of_mem _ (List.mem_append_right _ h)) (by decide +kernel))
set_option maxRecDepth 20000 in
theorem gX11_place_X11_needPart : GoodIn wsX11_place (wsV RX11 154 RX11 yX11_needPart wsX11_needPart) := goodIn_app (goodIn_of _ (by decide +kernel)) ggX11_place_X11_needPart
set_option maxRecDepth 20000 in
theorem ggX11_place_X11_needDot : GoodIn wsX11_place wsX11_needDot := goodIn_ca (goodIn_r _ [24, 25, 26, 27, 28, 29, 30, 31, 13, 14, 5, 15, 16, 17, 18, 19, 20, 46, 47, 48, 49, 50, 51, 52, 53, 58, 59, 60, 61, 62] (by decide +kernel) (by decide +kernel)) (goodIn_sub (fun _ h => List.mem_cons_of_mem _ (List.mem_append_right _ h)) (by decide +kernel))
set_option maxRecDepth 20000 in
theorem gX11_place_X11_needDot : GoodIn wsX11_place (wsV RX11 84 RX11 yX11_needDot wsX11_needDot) := goodIn_app (goodIn_of _ (by decide +kernel)) ggX11_place_X11_needDot
set_option maxRecDepth 20000 in
theorem ggX11_place_X8_numbered : GoodIn wsX11_place wsX8_numbered := goodIn_r _ [35, 36, 37, 19, 5, 20, 54, 55, 56, 57] (by decide +kernel) (by decide +kernel)
set_option maxRecDepth 20000 in
theorem gX11_place_X8_numbered : GoodIn wsX11_place (wsV RX11 140 RX8 yX8_numbered wsX8_numbered) := goodIn_app (goodIn_of _ (by decide +kernel)) ggX11_place_X8_numbered
set_option maxRecDepth 20000 in
theorem ggX11_place_X5_placeOf : GoodIn wsX11_place wsX5_placeOf := goodIn_r _ [42, 43, 44, 5, 45, 63, 64, 65, 66, 67, 68, 69] (by decide +kernel) (by decide +kernel)
set_option maxRecDepth 20000 in
theorem gX11_place_X5_placeOf : GoodIn wsX11_place (wsV RX11 162 RX5 yX5_placeOf wsX5_placeOf) := goodIn_app (goodIn_of _ (by decide +kernel)) ggX11_place_X5_placeOf
theorem dX11_place_0 : decode cX11_place 0 = .ok (.aload_n 0, 1) := by decide +kernel
theorem dX11_place_1 : decode cX11_place 1 = .ok (.iload_n 1, 1) := by decide +kernel
theorem dX11_place_2 : decode cX11_place 2 = .ok (.invokevirtual 154, 3) := by decide +kernel
theorem dX11_place_5 : decode cX11_place 5 = .ok (.aload_n 0, 1) := by decide +kernel
theorem dX11_place_6 : decode cX11_place 6 = .ok (.iload_n 2, 1) := by decide +kernel
theorem dX11_place_7 : decode cX11_place 7 = .ok (.invokevirtual 84, 3) := by decide +kernel
theorem dX11_place_10 : decode cX11_place 10 = .ok (.aload_n 0, 1) := by decide +kernel
theorem dX11_place_11 : decode cX11_place 11 = .ok (.getfield 26, 3) := by decide +kernel
theorem dX11_place_14 : decode cX11_place 14 = .ok (.iload_n 1, 1) := by decide +kernel
theorem dX11_place_15 : decode cX11_place 15 = .ok (.invokevirtual 140, 3) := by decide +kernel
theorem dX11_place_18 : decode cX11_place 18 = .ok (.iload_n 2, 1) := by decide +kernel
theorem dX11_place_19 : decode cX11_place 19 = .ok (.invokevirtual 162, 3) := by decide +kernel
theorem dX11_place_22 : decode cX11_place 22 = .ok (.ireturn, 1) := by decide +kernel
def fX11_place (m : dM) (p0 : Nat) (p1 : Int32) (p2 : Int32) : Option ((Nat × dM) ⊕ (Int32 × dM)) := dg (dkg p0 12) ((fX11_needPart m p0 p1).bind (fun q => dS q (fun x => some (.inl x)) (fun m2 => (fX11_needDot m2 p0 p2).bind (fun q => dS q (fun x => some (.inl x)) (fun m6 => (fX8_numbered m6 47 p1).bind (fun v10 => dg (dkg v10 6) ((fX5_placeOf m6 v10 p2).bind (fun v13 => some (.inr (v13, m6))))))))))
set_option maxHeartbeats 4000000 in
set_option maxRecDepth 100000 in
theorem kX11_place (l : Launch) (g : dG) (hst : l.stackTraces = false) {m : dM} {p0 : Nat} {p1 : Int32} {p2 : Int32} {o : ((Nat × dM) ⊕ (Int32 × dM))} (h : fX11_place m p0 p1 p2 = some o) : dXMet l g yX11_place wsX11_place 8 132 2 [.ref (dad g p0), .int p1, .int p2] m o (dXI g o) := by
  refine dxof (cc := cX11_place) (maxL := 3) (ret := (some .int)) _ (by decide) rfl (Nat.le_of_ble_eq_true rfl) ?_
  intro p e s mth below meth c S hr hlk hnt hE H ls hP hS hl
  have S : CallFix p mth c cX11_place 3 s _ wsX11_place RX11 := S
  have hl : lv_has ls 3 [(0, .ref (dad g p0)), (1, .int p1), (2, .int p2)] := hl
  obtain ⟨locs, hlocs⟩ : ∃ z : List Loc, z = [] := ⟨_, rfl⟩
  rw [← hlocs] at hS ⊢
  have in11 : ∀ w ∈ wsX110, w ∈ wsX11_place := by decide +kernel
  unfold fX11_place at h
  obtain ⟨k0, h⟩ := d_g h
  have k0 := d_k k0
  refine lv_aload_n S.1 S.2.1 dX11_place_0 rfl (lv_at hl 0 rfl) ?_
  refine lv_iload_n S.1 S.2.1 dX11_place_1 rfl (lv_at hl 1 rfl) ?_
  obtain ⟨q3, hc1, h⟩ := d_b h
  refine dxrv (o := q3) (vx_runV (As := [.int p1]) (rest := []) S (kX11_needPart l g hst hc1) (cwV 1 S.2.2.2.2 gX11_place_X11_needPart rfl rfl rfl ynX11_needPart ⟨Nat.le_of_ble_eq_true rfl, Nat.le_of_ble_eq_true rfl⟩) (dpV hE hP hS (ci := 11) rfl (dat12 k0)) rfl rfl hl.1 rfl (lv_room (Nat.le_of_ble_eq_true rfl)) dX11_place_2 ⟨Nat.le_of_ble_eq_true rfl, Nat.le_of_ble_eq_true rfl⟩) hS (fun u4 q9 ce H locs eo hP hS h1 h2 h3 => ?_) (fun m2 H locs eo hP hS => ?_)
  · subst eo
    have h := d_s1 h
    obtain rfl := Option.some.inj h
    exact dxout rfl hnt hlk hP hS h1 h2 h3 (Nat.le_of_ble_eq_true rfl) (Nat.le_of_ble_eq_true rfl)
  · subst eo
    have h := d_s2 h
    refine lv_aload_n S.1 S.2.1 dX11_place_5 rfl (lv_at hl 0 rfl) ?_
    refine lv_iload_n S.1 S.2.1 dX11_place_6 rfl (lv_at hl 2 rfl) ?_
    obtain ⟨q7, hc5, h⟩ := d_b h
    refine dxrv (o := q7) (vx_runV (As := [.int p2]) (rest := []) S (kX11_needDot l g hst hc5) (cwV 1 S.2.2.2.2 gX11_place_X11_needDot rfl rfl rfl ynX11_needDot ⟨Nat.le_of_ble_eq_true rfl, Nat.le_of_ble_eq_true rfl⟩) (dpV hE hP hS (ci := 11) rfl (dat12 k0)) rfl rfl hl.1 rfl (lv_room (Nat.le_of_ble_eq_true rfl)) dX11_place_7 ⟨Nat.le_of_ble_eq_true rfl, Nat.le_of_ble_eq_true rfl⟩) hS (fun u8 q9 ce H locs eo hP hS h1 h2 h3 => ?_) (fun m6 H locs eo hP hS => ?_)
    · subst eo
      have h := d_s1 h
      obtain rfl := Option.some.inj h
      exact dxout rfl hnt hlk hP hS h1 h2 h3 (Nat.le_of_ble_eq_true rfl) (Nat.le_of_ble_eq_true rfl)
    · subst eo
      have h := d_s2 h
      refine lv_aload_n S.1 S.2.1 dX11_place_10 rfl (lv_at hl 0 rfl) ?_
      refine dgf11_2 S in11 hE hP k0 (S.2.2.2.2 (.fieldLink RX11 26 "DrillField" "show" "LDrillField$Show;") (List.mem_of_getElem? (i := 1) rfl)) dX11_place_11 ?_
      refine lv_iload_n S.1 S.2.1 dX11_place_14 rfl (lv_at hl 1 rfl) ?_
      obtain ⟨v10, hc9, h⟩ := d_b h
      obtain ⟨hk11, h⟩ := d_g h
      have hk11 := d_k hk11
      refine drr (va_runV (As := [.int p1]) (rest := []) S (kX8_numbered l g hc9) (cwV 1 S.2.2.2.2 gX11_place_X8_numbered rfl rfl rfl ynX8_numbered ⟨Nat.le_of_ble_eq_true rfl, Nat.le_of_ble_eq_true rfl⟩) (dpV hE hP hS (ci := 8) rfl (dat9 dk_47)) rfl rfl hl.1 rfl (lv_room (Nat.le_of_ble_eq_true rfl)) dX11_place_15 ⟨Nat.le_of_ble_eq_true rfl, Nat.le_of_ble_eq_true rfl⟩) hS (fun H locs hP hS => ?_)
      refine lv_iload_n S.1 S.2.1 dX11_place_18 rfl (lv_at hl 2 rfl) ?_
      obtain ⟨v13, hc12, h⟩ := d_b h
      refine dri (va_runV (As := [.int p2]) (rest := []) S (kX5_placeOf l g hc12) (cwV 1 S.2.2.2.2 gX11_place_X5_placeOf rfl rfl rfl ynX5_placeOf ⟨Nat.le_of_ble_eq_true rfl, Nat.le_of_ble_eq_true rfl⟩) (dpV hE hP hS (ci := 5) rfl (dat6 hk11)) rfl rfl hl.1 rfl (lv_room (Nat.le_of_ble_eq_true rfl)) dX11_place_19 ⟨Nat.le_of_ble_eq_true rfl, Nat.le_of_ble_eq_true rfl⟩) hS (fun H locs hP hS => ?_)
      obtain rfl := Option.some.inj h
      exact dxti rfl S hr hlk hE hP hS rfl (Nat.le_of_ble_eq_true rfl) (Nat.le_of_ble_eq_true rfl) dX11_place_22
set_option maxRecDepth 20000 in
theorem ggX11_ranked_X11_needRange : GoodIn wsX11_ranked wsX11_needRange := goodIn_ca (goodIn_r _ [6, 7, 8, 9, 10, 5, 11] (by decide +kernel) (by decide +kernel)) (goodIn_sub (fun _ h => List.mem_cons_of_mem _ (List.mem_append_right _ h)) (by decide +kernel))
set_option maxRecDepth 20000 in
theorem gX11_ranked_X11_needRange : GoodIn wsX11_ranked (va_wsS RX11 65 yX11_needRange wsX11_needRange) := goodIn_app (goodIn_of _ (by decide +kernel)) ggX11_ranked_X11_needRange
set_option maxRecDepth 20000 in
theorem ggX11_ranked_X8_tenthsOfSeconds : GoodIn wsX11_ranked wsX8_tenthsOfSeconds := goodIn_r _ [16, 17, 18, 19, 20, 15, 21, 22, 23, 10, 5, 11, 24, 25, 26, 27, 28, 29, 30, 31, 32, 33, 34, 35, 36, 74, 75, 76, 77, 78, 79, 80, 81, 82, 83, 84] (by decide +kernel) (by decide +kernel)
set_option maxRecDepth 20000 in
theorem gX11_ranked_X8_tenthsOfSeconds : GoodIn wsX11_ranked (wsV RX11 241 RX8 yX8_tenthsOfSeconds wsX8_tenthsOfSeconds) := goodIn_app (goodIn_of _ (by decide +kernel)) ggX11_ranked_X8_tenthsOfSeconds
set_option maxRecDepth 20000 in
theorem ggX11_ranked_X0_bandAt : GoodIn wsX11_ranked wsX0_bandAt := goodIn_r _ [41, 42, 43, 44, 40, 45, 46, 47, 48, 49, 50, 51, 52, 53, 54, 55, 10, 5, 11, 56, 57, 58, 59, 60, 61, 31, 32, 33, 34, 35, 36, 62, 63, 64, 65, 85, 86, 87, 88] (by decide +kernel) (by decide +kernel)
set_option maxRecDepth 20000 in
theorem gX11_ranked_X0_bandAt : GoodIn wsX11_ranked (wsV RX11 256 RX0 yX0_bandAt wsX0_bandAt) := goodIn_app (goodIn_of _ (by decide +kernel)) ggX11_ranked_X0_bandAt
theorem dX11_ranked_0 : decode cX11_ranked 0 = .ok (.iload_n 1, 1) := by decide +kernel
theorem dX11_ranked_1 : decode cX11_ranked 1 = .ok (.iconst 0, 1) := by decide +kernel
theorem dX11_ranked_2 : decode cX11_ranked 2 = .ok (.iconst 5, 1) := by decide +kernel
theorem dX11_ranked_3 : decode cX11_ranked 3 = .ok (.invokestatic 65, 3) := by decide +kernel
theorem dX11_ranked_6 : decode cX11_ranked 6 = .ok (.aload_n 0, 1) := by decide +kernel
theorem dX11_ranked_7 : decode cX11_ranked 7 = .ok (.getfield 61, 3) := by decide +kernel
theorem dX11_ranked_10 : decode cX11_ranked 10 = .ok (.iload_n 1, 1) := by decide +kernel
theorem dX11_ranked_11 : decode cX11_ranked 11 = .ok (.aload_n 0, 1) := by decide +kernel
theorem dX11_ranked_12 : decode cX11_ranked 12 = .ok (.getfield 26, 3) := by decide +kernel
theorem dX11_ranked_15 : decode cX11_ranked 15 = .ok (.invokevirtual 241, 3) := by decide +kernel
theorem dX11_ranked_18 : decode cX11_ranked 18 = .ok (.invokevirtual 256, 3) := by decide +kernel
theorem dX11_ranked_21 : decode cX11_ranked 21 = .ok (.ireturn, 1) := by decide +kernel
def fX11_ranked (m : dM) (p0 : Nat) (p1 : Int32) : Option ((Nat × dM) ⊕ (Int32 × dM)) := dg (dkg p0 12) ((fX11_needRange m p1 0 5).bind (fun q => dS q (fun x => some (.inl x)) (fun m2 => (fX8_tenthsOfSeconds m2 47).bind (fun v6 => (fX0_bandAt m2 435 p1 v6).bind (fun v8 => some (.inr (v8, m2)))))))
set_option maxHeartbeats 4000000 in
set_option maxRecDepth 100000 in
theorem kX11_ranked (l : Launch) (g : dG) (hst : l.stackTraces = false) {m : dM} {p0 : Nat} {p1 : Int32} {o : ((Nat × dM) ⊕ (Int32 × dM))} (h : fX11_ranked m p0 p1 = some o) : dXMet l g yX11_ranked wsX11_ranked 7 139 1 [.ref (dad g p0), .int p1] m o (dXI g o) := by
  refine dxof (cc := cX11_ranked) (maxL := 2) (ret := (some .int)) _ (by decide) rfl (Nat.le_of_ble_eq_true rfl) ?_
  intro p e s mth below meth c S hr hlk hnt hE H ls hP hS hl
  have S : CallFix p mth c cX11_ranked 2 s _ wsX11_ranked RX11 := S
  have hl : lv_has ls 2 [(0, .ref (dad g p0)), (1, .int p1)] := hl
  obtain ⟨locs, hlocs⟩ : ∃ z : List Loc, z = [] := ⟨_, rfl⟩
  rw [← hlocs] at hS ⊢
  have in11 : ∀ w ∈ wsX110, w ∈ wsX11_ranked := by decide +kernel
  unfold fX11_ranked at h
  obtain ⟨k0, h⟩ := d_g h
  have k0 := d_k k0
  refine lv_iload_n S.1 S.2.1 dX11_ranked_0 rfl (lv_at hl 1 rfl) ?_
  refine lv_iconst (v := 0) S.1 S.2.1 dX11_ranked_1 (by decide) ?_
  refine lv_iconst (v := 5) S.1 S.2.1 dX11_ranked_2 (by decide) ?_
  obtain ⟨q3, hc1, h⟩ := d_b h
  refine dxrv (o := q3) (vx_runS (As := [.int p1, .int 0, .int 5]) (rest := []) S (kX11_needRange l g hst hc1) (va_cwS 3 S.2.2.2.2 gX11_ranked_X11_needRange rfl rfl rfl ynX11_needRange ⟨Nat.le_of_ble_eq_true rfl, Nat.le_of_ble_eq_true rfl⟩) (dpS hE hP hS) rfl rfl hl.1 rfl (lv_room (Nat.le_of_ble_eq_true rfl)) dX11_ranked_3 ⟨Nat.le_of_ble_eq_true rfl, Nat.le_of_ble_eq_true rfl⟩) hS (fun u4 q9 ce H locs eo hP hS h1 h2 h3 => ?_) (fun m2 H locs eo hP hS => ?_)
  · subst eo
    have h := d_s1 h
    obtain rfl := Option.some.inj h
    exact dxout rfl hnt hlk hP hS h1 h2 h3 (Nat.le_of_ble_eq_true rfl) (Nat.le_of_ble_eq_true rfl)
  · subst eo
    have h := d_s2 h
    refine lv_aload_n S.1 S.2.1 dX11_ranked_6 rfl (lv_at hl 0 rfl) ?_
    refine dgf11_7 S in11 hE hP k0 (S.2.2.2.2 (.fieldLink RX11 61 "DrillField" "contest" "LDrillField$Contest;") (List.mem_of_getElem? (i := 1) rfl)) dX11_ranked_7 ?_
    refine lv_iload_n S.1 S.2.1 dX11_ranked_10 rfl (lv_at hl 1 rfl) ?_
    refine lv_aload_n S.1 S.2.1 dX11_ranked_11 rfl (lv_at hl 0 rfl) ?_
    refine dgf11_2 S in11 hE hP k0 (S.2.2.2.2 (.fieldLink RX11 26 "DrillField" "show" "LDrillField$Show;") (List.mem_of_getElem? (i := 2) rfl)) dX11_ranked_12 ?_
    obtain ⟨v6, hc5, h⟩ := d_b h
    refine dri (va_runV (As := []) (rest := [.int p1, .ref (dad g 435)]) S (kX8_tenthsOfSeconds l g hc5) (cwV 0 S.2.2.2.2 gX11_ranked_X8_tenthsOfSeconds rfl rfl rfl ynX8_tenthsOfSeconds ⟨Nat.le_of_ble_eq_true rfl, Nat.le_of_ble_eq_true rfl⟩) (dpV hE hP hS (ci := 8) rfl (dat9 dk_47)) rfl rfl hl.1 rfl (lv_room (Nat.le_of_ble_eq_true rfl)) dX11_ranked_15 ⟨Nat.le_of_ble_eq_true rfl, Nat.le_of_ble_eq_true rfl⟩) hS (fun H locs hP hS => ?_)
    obtain ⟨v8, hc7, h⟩ := d_b h
    refine dri (va_runV (As := [.int p1, .int v6]) (rest := []) S (kX0_bandAt l g hc7) (cwV 2 S.2.2.2.2 gX11_ranked_X0_bandAt rfl rfl rfl ynX0_bandAt ⟨Nat.le_of_ble_eq_true rfl, Nat.le_of_ble_eq_true rfl⟩) (dpV hE hP hS (ci := 0) rfl (dat1 dk_435)) rfl rfl hl.1 rfl (lv_room (Nat.le_of_ble_eq_true rfl)) dX11_ranked_18 ⟨Nat.le_of_ble_eq_true rfl, Nat.le_of_ble_eq_true rfl⟩) hS (fun H locs hP hS => ?_)
    obtain rfl := Option.some.inj h
    exact dxti rfl S hr hlk hE hP hS rfl (Nat.le_of_ble_eq_true rfl) (Nat.le_of_ble_eq_true rfl) dX11_ranked_21
set_option maxRecDepth 20000 in
theorem ggX11_rehearse_X11_needRange : GoodIn wsX11_rehearse wsX11_needRange := goodIn_ca (goodIn_r _ [4, 5, 6, 7, 8, 3, 9] (by decide +kernel) (by decide +kernel)) (goodIn_sub (fun _ h => List.mem_cons_of_mem _ (List.mem_append_right _ h)) (by decide +kernel))
set_option maxRecDepth 20000 in
theorem gX11_rehearse_X11_needRange : GoodIn wsX11_rehearse (va_wsS RX11 65 yX11_needRange wsX11_needRange) := goodIn_app (goodIn_of _ (by decide +kernel)) ggX11_rehearse_X11_needRange
set_option maxRecDepth 20000 in
theorem ggX11_rehearse_X11_withRests : GoodIn wsX11_rehearse wsX11_withRests := goodIn_r _ [12, 13, 14, 3, 15, 16, 17, 18, 19] (by decide +kernel) (by decide +kernel)
set_option maxRecDepth 20000 in
theorem gX11_rehearse_X11_withRests : GoodIn wsX11_rehearse (va_wsS RX11 259 yX11_withRests wsX11_withRests) := goodIn_app (goodIn_of _ (by decide +kernel)) ggX11_rehearse_X11_withRests
theorem dX11_rehearse_0 : decode cX11_rehearse 0 = .ok (.iload_n 1, 1) := by decide +kernel
theorem dX11_rehearse_1 : decode cX11_rehearse 1 = .ok (.iconst 1, 1) := by decide +kernel
theorem dX11_rehearse_2 : decode cX11_rehearse 2 = .ok (.sipush 9999, 3) := by decide +kernel
theorem dX11_rehearse_5 : decode cX11_rehearse 5 = .ok (.invokestatic 65, 3) := by decide +kernel
theorem dX11_rehearse_8 : decode cX11_rehearse 8 = .ok (.iload_n 2, 1) := by decide +kernel
theorem dX11_rehearse_9 : decode cX11_rehearse 9 = .ok (.iconst 0, 1) := by decide +kernel
theorem dX11_rehearse_10 : decode cX11_rehearse 10 = .ok (.bipush 60, 2) := by decide +kernel
theorem dX11_rehearse_12 : decode cX11_rehearse 12 = .ok (.invokestatic 65, 3) := by decide +kernel
theorem dX11_rehearse_15 : decode cX11_rehearse 15 = .ok (.iload_n 2, 1) := by decide +kernel
theorem dX11_rehearse_16 : decode cX11_rehearse 16 = .ok (.bipush 28, 2) := by decide +kernel
theorem dX11_rehearse_18 : decode cX11_rehearse 18 = .ok (.if_icmp .ge 12, 3) := by decide +kernel
theorem dX11_rehearse_21 : decode cX11_rehearse 21 = .ok (.iload_n 1, 1) := by decide +kernel
theorem dX11_rehearse_22 : decode cX11_rehearse 22 = .ok (.bipush 50, 2) := by decide +kernel
theorem dX11_rehearse_24 : decode cX11_rehearse 24 = .ok (.bipush 10, 2) := by decide +kernel
theorem dX11_rehearse_26 : decode cX11_rehearse 26 = .ok (.invokestatic 259, 3) := by decide +kernel
theorem dX11_rehearse_29 : decode cX11_rehearse 29 = .ok (.ireturn, 1) := by decide +kernel
theorem dX11_rehearse_30 : decode cX11_rehearse 30 = .ok (.iload_n 2, 1) := by decide +kernel
theorem dX11_rehearse_31 : decode cX11_rehearse 31 = .ok (.bipush 32, 2) := by decide +kernel
theorem dX11_rehearse_33 : decode cX11_rehearse 33 = .ok (.if_icmp .ge 12, 3) := by decide +kernel
theorem dX11_rehearse_36 : decode cX11_rehearse 36 = .ok (.iload_n 1, 1) := by decide +kernel
theorem dX11_rehearse_37 : decode cX11_rehearse 37 = .ok (.bipush 30, 2) := by decide +kernel
theorem dX11_rehearse_39 : decode cX11_rehearse 39 = .ok (.bipush 10, 2) := by decide +kernel
theorem dX11_rehearse_41 : decode cX11_rehearse 41 = .ok (.invokestatic 259, 3) := by decide +kernel
theorem dX11_rehearse_44 : decode cX11_rehearse 44 = .ok (.ireturn, 1) := by decide +kernel
theorem dX11_rehearse_45 : decode cX11_rehearse 45 = .ok (.iload_n 2, 1) := by decide +kernel
theorem dX11_rehearse_46 : decode cX11_rehearse 46 = .ok (.bipush 36, 2) := by decide +kernel
theorem dX11_rehearse_48 : decode cX11_rehearse 48 = .ok (.if_icmp .ge 14, 3) := by decide +kernel
theorem dX11_rehearse_51 : decode cX11_rehearse 51 = .ok (.iload_n 1, 1) := by decide +kernel
theorem dX11_rehearse_52 : decode cX11_rehearse 52 = .ok (.bipush 20, 2) := by decide +kernel
theorem dX11_rehearse_54 : decode cX11_rehearse 54 = .ok (.bipush 20, 2) := by decide +kernel
theorem dX11_rehearse_56 : decode cX11_rehearse 56 = .ok (.invokestatic 259, 3) := by decide +kernel
theorem dX11_rehearse_59 : decode cX11_rehearse 59 = .ok (.goto 4, 3) := by decide +kernel
theorem dX11_rehearse_62 : decode cX11_rehearse 62 = .ok (.iconst (-1), 1) := by decide +kernel
theorem dX11_rehearse_63 : decode cX11_rehearse 63 = .ok (.ireturn, 1) := by decide +kernel
def fX11_rehearse (m : dM) (p0 : Nat) (p1 : Int32) (p2 : Int32) : Option ((Nat × dM) ⊕ (Int32 × dM)) := dg (dkg p0 12) ((fX11_needRange m p1 1 9999).bind (fun q => dS q (fun x => some (.inl x)) (fun m2 => (fX11_needRange m2 p2 0 60).bind (fun q => dS q (fun x => some (.inl x)) (fun m6 => if 28 ≤ p2 then if 32 ≤ p2 then if 36 ≤ p2 then some (.inr ((-1), m6)) else (fX11_withRests m6 p1 20 20).bind (fun v10 => some (.inr (v10, m6))) else (fX11_withRests m6 p1 30 10).bind (fun v12 => some (.inr (v12, m6))) else (fX11_withRests m6 p1 50 10).bind (fun v14 => some (.inr (v14, m6))))))))
set_option maxHeartbeats 4000000 in
set_option maxRecDepth 100000 in
theorem kX11_rehearse (l : Launch) (g : dG) (hst : l.stackTraces = false) {m : dM} {p0 : Nat} {p1 : Int32} {p2 : Int32} {o : ((Nat × dM) ⊕ (Int32 × dM))} (h : fX11_rehearse m p0 p1 p2 = some o) : dXMet l g yX11_rehearse wsX11_rehearse 7 112 2 [.ref (dad g p0), .int p1, .int p2] m o (dXI g o) := by
  refine dxof (cc := cX11_rehearse) (maxL := 3) (ret := (some .int)) _ (by decide) rfl (Nat.le_of_ble_eq_true rfl) ?_
  intro p e s mth below meth c S hr hlk hnt hE H ls hP hS hl
  have S : CallFix p mth c cX11_rehearse 3 s _ wsX11_rehearse RX11 := S
  have hl : lv_has ls 3 [(0, .ref (dad g p0)), (1, .int p1), (2, .int p2)] := hl
  obtain ⟨locs, hlocs⟩ : ∃ z : List Loc, z = [] := ⟨_, rfl⟩
  rw [← hlocs] at hS ⊢
  unfold fX11_rehearse at h
  obtain ⟨k0, h⟩ := d_g h
  have k0 := d_k k0
  refine lv_iload_n S.1 S.2.1 dX11_rehearse_0 rfl (lv_at hl 1 rfl) ?_
  refine lv_iconst (v := 1) S.1 S.2.1 dX11_rehearse_1 (by decide) ?_
  refine lv_sipush (v := 9999) S.1 S.2.1 dX11_rehearse_2 (by decide) ?_
  obtain ⟨q3, hc1, h⟩ := d_b h
  refine dxrv (o := q3) (vx_runS (As := [.int p1, .int 1, .int 9999]) (rest := []) S (kX11_needRange l g hst hc1) (va_cwS 3 S.2.2.2.2 gX11_rehearse_X11_needRange rfl rfl rfl ynX11_needRange ⟨Nat.le_of_ble_eq_true rfl, Nat.le_of_ble_eq_true rfl⟩) (dpS hE hP hS) rfl rfl hl.1 rfl (lv_room (Nat.le_of_ble_eq_true rfl)) dX11_rehearse_5 ⟨Nat.le_of_ble_eq_true rfl, Nat.le_of_ble_eq_true rfl⟩) hS (fun u4 q9 ce H locs eo hP hS h1 h2 h3 => ?_) (fun m2 H locs eo hP hS => ?_)
  · subst eo
    have h := d_s1 h
    obtain rfl := Option.some.inj h
    exact dxout rfl hnt hlk hP hS h1 h2 h3 (Nat.le_of_ble_eq_true rfl) (Nat.le_of_ble_eq_true rfl)
  · subst eo
    have h := d_s2 h
    refine lv_iload_n S.1 S.2.1 dX11_rehearse_8 rfl (lv_at hl 2 rfl) ?_
    refine lv_iconst (v := 0) S.1 S.2.1 dX11_rehearse_9 (by decide) ?_
    refine lv_bipush (v := 60) S.1 S.2.1 dX11_rehearse_10 (by decide) ?_
    obtain ⟨q7, hc5, h⟩ := d_b h
    refine dxrv (o := q7) (vx_runS (As := [.int p2, .int 0, .int 60]) (rest := []) S (kX11_needRange l g hst hc5) (va_cwS 3 S.2.2.2.2 gX11_rehearse_X11_needRange rfl rfl rfl ynX11_needRange ⟨Nat.le_of_ble_eq_true rfl, Nat.le_of_ble_eq_true rfl⟩) (dpS hE hP hS) rfl rfl hl.1 rfl (lv_room (Nat.le_of_ble_eq_true rfl)) dX11_rehearse_12 ⟨Nat.le_of_ble_eq_true rfl, Nat.le_of_ble_eq_true rfl⟩) hS (fun u8 q9 ce H locs eo hP hS h1 h2 h3 => ?_) (fun m6 H locs eo hP hS => ?_)
    · subst eo
      have h := d_s1 h
      obtain rfl := Option.some.inj h
      exact dxout rfl hnt hlk hP hS h1 h2 h3 (Nat.le_of_ble_eq_true rfl) (Nat.le_of_ble_eq_true rfl)
    · subst eo
      have h := d_s2 h
      refine lv_iload_n S.1 S.2.1 dX11_rehearse_15 rfl (lv_at hl 2 rfl) ?_
      refine lv_bipush (v := 28) S.1 S.2.1 dX11_rehearse_16 (by decide) ?_
      refine lv_icmp_ge (tgt := 30) S.1 S.2.1 dX11_rehearse_18 (by decide) (fun cq => ?_) (fun cq => ?_)
      · have h := d_t cq h
        refine lv_iload_n S.1 S.2.1 dX11_rehearse_30 rfl (lv_at hl 2 rfl) ?_
        refine lv_bipush (v := 32) S.1 S.2.1 dX11_rehearse_31 (by decide) ?_
        refine lv_icmp_ge (tgt := 45) S.1 S.2.1 dX11_rehearse_33 (by decide) (fun cq => ?_) (fun cq => ?_)
        · have h := d_t cq h
          refine lv_iload_n S.1 S.2.1 dX11_rehearse_45 rfl (lv_at hl 2 rfl) ?_
          refine lv_bipush (v := 36) S.1 S.2.1 dX11_rehearse_46 (by decide) ?_
          refine lv_icmp_ge (tgt := 62) S.1 S.2.1 dX11_rehearse_48 (by decide) (fun cq => ?_) (fun cq => ?_)
          · have h := d_t cq h
            refine lv_iconst (v := (-1)) S.1 S.2.1 dX11_rehearse_62 (by decide) ?_
            obtain rfl := Option.some.inj h
            exact dxti rfl S hr hlk hE hP hS rfl (Nat.le_of_ble_eq_true rfl) (Nat.le_of_ble_eq_true rfl) dX11_rehearse_63
          · have h := d_f cq h
            refine lv_iload_n S.1 S.2.1 dX11_rehearse_51 rfl (lv_at hl 1 rfl) ?_
            refine lv_bipush (v := 20) S.1 S.2.1 dX11_rehearse_52 (by decide) ?_
            refine lv_bipush (v := 20) S.1 S.2.1 dX11_rehearse_54 (by decide) ?_
            obtain ⟨v10, hc9, h⟩ := d_b h
            refine dri (va_runS (As := [.int p1, .int 20, .int 20]) (rest := []) S (kX11_withRests l g hc9) (va_cwS 3 S.2.2.2.2 gX11_rehearse_X11_withRests rfl rfl rfl ynX11_withRests ⟨Nat.le_of_ble_eq_true rfl, Nat.le_of_ble_eq_true rfl⟩) (dpS hE hP hS) rfl rfl hl.1 rfl (lv_room (Nat.le_of_ble_eq_true rfl)) dX11_rehearse_56 ⟨Nat.le_of_ble_eq_true rfl, Nat.le_of_ble_eq_true rfl⟩) hS (fun H locs hP hS => ?_)
            refine lv_goto (tgt := 63) S.1 S.2.1 dX11_rehearse_59 (by decide) ?_
            obtain rfl := Option.some.inj h
            exact dxti rfl S hr hlk hE hP hS rfl (Nat.le_of_ble_eq_true rfl) (Nat.le_of_ble_eq_true rfl) dX11_rehearse_63
        · have h := d_f cq h
          refine lv_iload_n S.1 S.2.1 dX11_rehearse_36 rfl (lv_at hl 1 rfl) ?_
          refine lv_bipush (v := 30) S.1 S.2.1 dX11_rehearse_37 (by decide) ?_
          refine lv_bipush (v := 10) S.1 S.2.1 dX11_rehearse_39 (by decide) ?_
          obtain ⟨v12, hc11, h⟩ := d_b h
          refine dri (va_runS (As := [.int p1, .int 30, .int 10]) (rest := []) S (kX11_withRests l g hc11) (va_cwS 3 S.2.2.2.2 gX11_rehearse_X11_withRests rfl rfl rfl ynX11_withRests ⟨Nat.le_of_ble_eq_true rfl, Nat.le_of_ble_eq_true rfl⟩) (dpS hE hP hS) rfl rfl hl.1 rfl (lv_room (Nat.le_of_ble_eq_true rfl)) dX11_rehearse_41 ⟨Nat.le_of_ble_eq_true rfl, Nat.le_of_ble_eq_true rfl⟩) hS (fun H locs hP hS => ?_)
          obtain rfl := Option.some.inj h
          exact dxti rfl S hr hlk hE hP hS rfl (Nat.le_of_ble_eq_true rfl) (Nat.le_of_ble_eq_true rfl) dX11_rehearse_44
      · have h := d_f cq h
        refine lv_iload_n S.1 S.2.1 dX11_rehearse_21 rfl (lv_at hl 1 rfl) ?_
        refine lv_bipush (v := 50) S.1 S.2.1 dX11_rehearse_22 (by decide) ?_
        refine lv_bipush (v := 10) S.1 S.2.1 dX11_rehearse_24 (by decide) ?_
        obtain ⟨v14, hc13, h⟩ := d_b h
        refine dri (va_runS (As := [.int p1, .int 50, .int 10]) (rest := []) S (kX11_withRests l g hc13) (va_cwS 3 S.2.2.2.2 gX11_rehearse_X11_withRests rfl rfl rfl ynX11_withRests ⟨Nat.le_of_ble_eq_true rfl, Nat.le_of_ble_eq_true rfl⟩) (dpS hE hP hS) rfl rfl hl.1 rfl (lv_room (Nat.le_of_ble_eq_true rfl)) dX11_rehearse_26 ⟨Nat.le_of_ble_eq_true rfl, Nat.le_of_ble_eq_true rfl⟩) hS (fun H locs hP hS => ?_)
        obtain rfl := Option.some.inj h
        exact dxti rfl S hr hlk hE hP hS rfl (Nat.le_of_ble_eq_true rfl) (Nat.le_of_ble_eq_true rfl) dX11_rehearse_29
set_option maxRecDepth 20000 in
theorem ggX11_walking_X11_needPart : GoodIn wsX11_walking wsX11_needPart := goodIn_ca (goodIn_r _ [7, 1, 8, 9, 10, 11, 12, 13, 14, 15, 6, 16, 17, 18, 19, 20, 21, 52, 53, 54, 55, 56, 57, 58, 59, 60, 61, 62, 63] (by decide +kernel) (by decide +kernel)) (goodIn_sub (fun _ h => List.mem_cons_of_mem _ (List.mem_append_right _ h)) (by decide +kernel))
set_option maxRecDepth 20000 in
theorem gX11_walking_X11_needPart : GoodIn wsX11_walking (wsV RX11 154 RX11 yX11_needPart wsX11_needPart) := goodIn_app (goodIn_of _ (by decide +kernel)) ggX11_walking_X11_needPart
set_option maxRecDepth 20000 in
theorem ggX11_walking_X8_numbered : GoodIn wsX11_walking wsX8_numbered := goodIn_r _ [25, 26, 27, 20, 6, 21, 60, 61, 62, 63] (by decide +kernel) (by decide +kernel)
set_option maxRecDepth 20000 in
theorem gX11_walking_X8_numbered : GoodIn wsX11_walking (wsV RX11 140 RX8 yX8_numbered wsX8_numbered) := goodIn_app (goodIn_of _ (by decide +kernel)) ggX11_walking_X8_numbered
set_option maxRecDepth 20000 in
theorem ggX11_walking_X1_number : GoodIn wsX11_walking wsX1_number := goodIn_r _ [32, 33, 64, 65, 66, 67, 68] (by decide +kernel) (by decide +kernel)
set_option maxRecDepth 20000 in
theorem gX11_walking_X1_number : GoodIn wsX11_walking (wsV RX11 119 RX1 yX1_number wsX1_number) := goodIn_app (goodIn_of _ (by decide +kernel)) ggX11_walking_X1_number
set_option maxRecDepth 20000 in
theorem ggX11_walking_X5_squaresOfWays : GoodIn wsX11_walking wsX5_squaresOfWays := goodIn_r _ [38, 39, 40, 41, 42, 43, 44, 45, 46, 47, 48, 6, 49, 50, 51, 69, 70, 71, 72, 73, 74, 75, 76, 77] (by decide +kernel) (by decide +kernel)
set_option maxRecDepth 20000 in
theorem gX11_walking_X5_squaresOfWays : GoodIn wsX11_walking (wsV RX11 165 RX5 yX5_squaresOfWays wsX5_squaresOfWays) := goodIn_app (goodIn_of _ (by decide +kernel)) ggX11_walking_X5_squaresOfWays
theorem dX11_walking_0 : decode cX11_walking 0 = .ok (.aload_n 0, 1) := by decide +kernel
theorem dX11_walking_1 : decode cX11_walking 1 = .ok (.iload_n 1, 1) := by decide +kernel
theorem dX11_walking_2 : decode cX11_walking 2 = .ok (.invokevirtual 154, 3) := by decide +kernel
theorem dX11_walking_5 : decode cX11_walking 5 = .ok (.aload_n 0, 1) := by decide +kernel
theorem dX11_walking_6 : decode cX11_walking 6 = .ok (.getfield 26, 3) := by decide +kernel
theorem dX11_walking_9 : decode cX11_walking 9 = .ok (.iload_n 1, 1) := by decide +kernel
theorem dX11_walking_10 : decode cX11_walking 10 = .ok (.invokevirtual 140, 3) := by decide +kernel
theorem dX11_walking_13 : decode cX11_walking 13 = .ok (.aload_n 0, 1) := by decide +kernel
theorem dX11_walking_14 : decode cX11_walking 14 = .ok (.getfield 10, 3) := by decide +kernel
theorem dX11_walking_17 : decode cX11_walking 17 = .ok (.invokevirtual 119, 3) := by decide +kernel
theorem dX11_walking_20 : decode cX11_walking 20 = .ok (.invokevirtual 165, 3) := by decide +kernel
theorem dX11_walking_23 : decode cX11_walking 23 = .ok (.lreturn, 1) := by decide +kernel
def fX11_walking (m : dM) (p0 : Nat) (p1 : Int32) : Option ((Nat × dM) ⊕ (Int64 × dM)) := dg (dkg p0 12) ((fX11_needPart m p0 p1).bind (fun q => dS q (fun x => some (.inl x)) (fun m2 => (fX8_numbered m2 47 p1).bind (fun v6 => dg (dkg v6 6) ((fX1_number m2 1).bind (fun v9 => (fX5_squaresOfWays m2 v6 v9).bind (fun v11 => some (.inr (v11, m2)))))))))
set_option maxHeartbeats 4000000 in
set_option maxRecDepth 100000 in
theorem kX11_walking (l : Launch) (g : dG) (hst : l.stackTraces = false) {m : dM} {p0 : Nat} {p1 : Int32} {o : ((Nat × dM) ⊕ (Int64 × dM))} (h : fX11_walking m p0 p1 = some o) : dXMet l g yX11_walking wsX11_walking 8 132 1 [.ref (dad g p0), .int p1] m o (dXJ g o) := by
  refine dxof (cc := cX11_walking) (maxL := 2) (ret := (some .long)) _ (by decide) rfl (Nat.le_of_ble_eq_true rfl) ?_
  intro p e s mth below meth c S hr hlk hnt hE H ls hP hS hl
  have S : CallFix p mth c cX11_walking 2 s _ wsX11_walking RX11 := S
  have hl : lv_has ls 2 [(0, .ref (dad g p0)), (1, .int p1)] := hl
  obtain ⟨locs, hlocs⟩ : ∃ z : List Loc, z = [] := ⟨_, rfl⟩
  rw [← hlocs] at hS ⊢
  have in11 : ∀ w ∈ wsX110, w ∈ wsX11_walking := by decide +kernel
  unfold fX11_walking at h
  obtain ⟨k0, h⟩ := d_g h
  have k0 := d_k k0
  refine lv_aload_n S.1 S.2.1 dX11_walking_0 rfl (lv_at hl 0 rfl) ?_
  refine lv_iload_n S.1 S.2.1 dX11_walking_1 rfl (lv_at hl 1 rfl) ?_
  obtain ⟨q3, hc1, h⟩ := d_b h
  refine dxrv (o := q3) (vx_runV (As := [.int p1]) (rest := []) S (kX11_needPart l g hst hc1) (cwV 1 S.2.2.2.2 gX11_walking_X11_needPart rfl rfl rfl ynX11_needPart ⟨Nat.le_of_ble_eq_true rfl, Nat.le_of_ble_eq_true rfl⟩) (dpV hE hP hS (ci := 11) rfl (dat12 k0)) rfl rfl hl.1 rfl (lv_room (Nat.le_of_ble_eq_true rfl)) dX11_walking_2 ⟨Nat.le_of_ble_eq_true rfl, Nat.le_of_ble_eq_true rfl⟩) hS (fun u4 q9 ce H locs eo hP hS h1 h2 h3 => ?_) (fun m2 H locs eo hP hS => ?_)
  · subst eo
    have h := d_s1 h
    obtain rfl := Option.some.inj h
    exact dxout rfl hnt hlk hP hS h1 h2 h3 (Nat.le_of_ble_eq_true rfl) (Nat.le_of_ble_eq_true rfl)
  · subst eo
    have h := d_s2 h
    refine lv_aload_n S.1 S.2.1 dX11_walking_5 rfl (lv_at hl 0 rfl) ?_
    refine dgf11_2 S in11 hE hP k0 (S.2.2.2.2 (.fieldLink RX11 26 "DrillField" "show" "LDrillField$Show;") (List.mem_of_getElem? (i := 1) rfl)) dX11_walking_6 ?_
    refine lv_iload_n S.1 S.2.1 dX11_walking_9 rfl (lv_at hl 1 rfl) ?_
    obtain ⟨v6, hc5, h⟩ := d_b h
    obtain ⟨hk7, h⟩ := d_g h
    have hk7 := d_k hk7
    refine drr (va_runV (As := [.int p1]) (rest := []) S (kX8_numbered l g hc5) (cwV 1 S.2.2.2.2 gX11_walking_X8_numbered rfl rfl rfl ynX8_numbered ⟨Nat.le_of_ble_eq_true rfl, Nat.le_of_ble_eq_true rfl⟩) (dpV hE hP hS (ci := 8) rfl (dat9 dk_47)) rfl rfl hl.1 rfl (lv_room (Nat.le_of_ble_eq_true rfl)) dX11_walking_10 ⟨Nat.le_of_ble_eq_true rfl, Nat.le_of_ble_eq_true rfl⟩) hS (fun H locs hP hS => ?_)
    refine lv_aload_n S.1 S.2.1 dX11_walking_13 rfl (lv_at hl 0 rfl) ?_
    refine dgf11_0 S in11 hE hP k0 (S.2.2.2.2 (.fieldLink RX11 10 "DrillField" "dots" "LDrillField$Dots;") (List.mem_of_getElem? (i := 2) rfl)) dX11_walking_14 ?_
    obtain ⟨v9, hc8, h⟩ := d_b h
    refine dri (va_runV (As := []) (rest := [.ref (dad g v6)]) S (kX1_number l g hc8) (cwV 0 S.2.2.2.2 gX11_walking_X1_number rfl rfl rfl ynX1_number ⟨Nat.le_of_ble_eq_true rfl, Nat.le_of_ble_eq_true rfl⟩) (dpV hE hP hS (ci := 1) rfl (dat2 dk_1)) rfl rfl hl.1 rfl (lv_room (Nat.le_of_ble_eq_true rfl)) dX11_walking_17 ⟨Nat.le_of_ble_eq_true rfl, Nat.le_of_ble_eq_true rfl⟩) hS (fun H locs hP hS => ?_)
    obtain ⟨v11, hc10, h⟩ := d_b h
    refine drj (va_runV (As := [.int v9]) (rest := []) S (kX5_squaresOfWays l g hc10) (cwV 1 S.2.2.2.2 gX11_walking_X5_squaresOfWays rfl rfl rfl ynX5_squaresOfWays ⟨Nat.le_of_ble_eq_true rfl, Nat.le_of_ble_eq_true rfl⟩) (dpV hE hP hS (ci := 5) rfl (dat6 hk7)) rfl rfl hl.1 rfl (lv_room (Nat.le_of_ble_eq_true rfl)) dX11_walking_20 ⟨Nat.le_of_ble_eq_true rfl, Nat.le_of_ble_eq_true rfl⟩) hS (fun H locs hP hS => ?_)
    obtain rfl := Option.some.inj h
    exact dxtj rfl S hr hlk hE hP hS (Nat.le_of_ble_eq_true rfl) (Nat.le_of_ble_eq_true rfl) dX11_walking_23
set_option maxRecDepth 20000 in
theorem ggX11_wedge_X11_needRange : GoodIn wsX11_wedge wsX11_needRange := goodIn_ca (goodIn_r _ [6, 7, 8, 9, 10, 5, 11] (by decide +kernel) (by decide +kernel)) (goodIn_sub (fun _ h => List.mem_cons_of_mem _ (List.mem_append_left _ (List.mem_append_right _ h))) (by decide +kernel))
set_option maxRecDepth 20000 in
theorem gX11_wedge_X11_needRange : GoodIn wsX11_wedge (va_wsS RX11 65 yX11_needRange wsX11_needRange) := goodIn_app (goodIn_of _ (by decide +kernel)) ggX11_wedge_X11_needRange
set_option maxRecDepth 20000 in
theorem ggX11_wedge_X1_number : GoodIn wsX11_wedge wsX1_number := goodIn_r _ [16, 17, 93, 94, 95, 96, 97] (by decide +kernel) (by decide +kernel)
set_option maxRecDepth 20000 in
theorem gX11_wedge_X1_number : GoodIn wsX11_wedge (wsV RX11 119 RX1 yX1_number wsX1_number) := goodIn_app (goodIn_of _ (by decide +kernel)) ggX11_wedge_X1_number
set_option maxRecDepth 20000 in
theorem ggX11_wedge_X7_draftWedge : GoodIn wsX11_wedge wsX7_draftWedge := goodIn_r _ [22, 23, 24, 5, 25, 26, 27, 28, 29, 30, 31, 32, 33, 34, 35, 36, 37, 38, 39, 40, 41, 42, 43, 98, 99, 100, 101, 102] (by decide +kernel) (by decide +kernel)
set_option maxRecDepth 20000 in
theorem gX11_wedge_X7_draftWedge : GoodIn wsX11_wedge (wsV RX11 130 RX7 yX7_draftWedge wsX7_draftWedge) := goodIn_app (goodIn_of _ (by decide +kernel)) ggX11_wedge_X7_draftWedge
set_option maxRecDepth 20000 in
theorem ggX11_wedge_X11_keepDraft : GoodIn wsX11_wedge wsX11_keepDraft := goodIn_ca (goodIn_ca (goodIn_r _ [47, 7, 8, 48, 49, 1, 2, 12, 13, 14, 15, 16, 17, 50, 51, 52, 21, 53, 23, 54, 55, 56, 38, 57, 40, 42, 5, 43, 58, 59, 60, 61, 41, 62, 63, 9, 10, 11, 64, 65, 66, 67, 68, 69, 70, 71, 72, 73, 74, 75, 76, 77, 78, 79, 80, 81, 82, 83, 84, 36, 37, 39, 85, 86, 87, 88, 89, 90, 91, 92, 93, 94, 95, 96, 97, 98, 99, 100, 101, 102] (by decide +kernel) (by decide +kernel)) (goodIn_sub (fun _ h => List.mem_cons_of_mem _ (List.mem_append_left _ (List.mem_append_right _ h))) (by decide +kernel))) (goodIn_sub (fun _ h => List.mem_cons_of_mem _ (List.mem_append_right _ h)) (by decide +kernel))
set_option maxRecDepth 20000 in
theorem gX11_wedge_X11_keepDraft : GoodIn wsX11_wedge (wsV RX11 124 RX11 yX11_keepDraft wsX11_keepDraft) := goodIn_app (goodIn_of _ (by decide +kernel)) ggX11_wedge_X11_keepDraft
theorem dX11_wedge_0 : decode cX11_wedge 0 = .ok (.iload_n 3, 1) := by decide +kernel
theorem dX11_wedge_1 : decode cX11_wedge 1 = .ok (.iconst 1, 1) := by decide +kernel
theorem dX11_wedge_2 : decode cX11_wedge 2 = .ok (.sipush 400, 3) := by decide +kernel
theorem dX11_wedge_5 : decode cX11_wedge 5 = .ok (.invokestatic 65, 3) := by decide +kernel
theorem dX11_wedge_8 : decode cX11_wedge 8 = .ok (.aload_n 0, 1) := by decide +kernel
theorem dX11_wedge_9 : decode cX11_wedge 9 = .ok (.getfield 19, 3) := by decide +kernel
theorem dX11_wedge_12 : decode cX11_wedge 12 = .ok (.iload_n 1, 1) := by decide +kernel
theorem dX11_wedge_13 : decode cX11_wedge 13 = .ok (.iload_n 2, 1) := by decide +kernel
theorem dX11_wedge_14 : decode cX11_wedge 14 = .ok (.iload_n 3, 1) := by decide +kernel
theorem dX11_wedge_15 : decode cX11_wedge 15 = .ok (.aload_n 0, 1) := by decide +kernel
theorem dX11_wedge_16 : decode cX11_wedge 16 = .ok (.getfield 10, 3) := by decide +kernel
theorem dX11_wedge_19 : decode cX11_wedge 19 = .ok (.invokevirtual 119, 3) := by decide +kernel
theorem dX11_wedge_22 : decode cX11_wedge 22 = .ok (.invokevirtual 130, 3) := by decide +kernel
theorem dX11_wedge_25 : decode cX11_wedge 25 = .ok (.aload_n 0, 1) := by decide +kernel
theorem dX11_wedge_26 : decode cX11_wedge 26 = .ok (.invokevirtual 124, 3) := by decide +kernel
theorem dX11_wedge_29 : decode cX11_wedge 29 = .ok (.ireturn, 1) := by decide +kernel
def fX11_wedge (m : dM) (p0 : Nat) (p1 : Int32) (p2 : Int32) (p3 : Int32) : Option ((Nat × dM) ⊕ (Int32 × dM)) := dg (dkg p0 12) ((fX11_needRange m p3 1 400).bind (fun q => dS q (fun x => some (.inl x)) (fun m2 => (fX1_number m2 1).bind (fun v6 => (fX7_draftWedge m2 6 p1 p2 p3 v6).bind (fun m8 => (fX11_keepDraft m8 p0).bind (fun q => dS q (fun x => some (.inl x)) (fun q => dP2 q (fun v13 m10 => some (.inr (v13, m10))))))))))
set_option maxHeartbeats 4000000 in
set_option maxRecDepth 100000 in
theorem kX11_wedge (l : Launch) (g : dG) (hst : l.stackTraces = false) {m : dM} {p0 : Nat} {p1 : Int32} {p2 : Int32} {p3 : Int32} {o : ((Nat × dM) ⊕ (Int32 × dM))} (h : fX11_wedge m p0 p1 p2 p3 = some o) : dXMet l g yX11_wedge wsX11_wedge 7 112 2 [.ref (dad g p0), .int p1, .int p2, .int p3] m o (dXI g o) := by
  refine dxof (cc := cX11_wedge) (maxL := 4) (ret := (some .int)) _ (by decide) rfl (Nat.le_of_ble_eq_true rfl) ?_
  intro p e s mth below meth c S hr hlk hnt hE H ls hP hS hl
  have S : CallFix p mth c cX11_wedge 4 s _ wsX11_wedge RX11 := S
  have hl : lv_has ls 4 [(0, .ref (dad g p0)), (1, .int p1), (2, .int p2), (3, .int p3)] := hl
  obtain ⟨locs, hlocs⟩ : ∃ z : List Loc, z = [] := ⟨_, rfl⟩
  rw [← hlocs] at hS ⊢
  have in11 : ∀ w ∈ wsX110, w ∈ wsX11_wedge := by decide +kernel
  unfold fX11_wedge at h
  obtain ⟨k0, h⟩ := d_g h
  have k0 := d_k k0
  refine lv_iload_n S.1 S.2.1 dX11_wedge_0 rfl (lv_at hl 3 rfl) ?_
  refine lv_iconst (v := 1) S.1 S.2.1 dX11_wedge_1 (by decide) ?_
  refine lv_sipush (v := 400) S.1 S.2.1 dX11_wedge_2 (by decide) ?_
  obtain ⟨q3, hc1, h⟩ := d_b h
  refine dxrv (o := q3) (vx_runS (As := [.int p3, .int 1, .int 400]) (rest := []) S (kX11_needRange l g hst hc1) (va_cwS 3 S.2.2.2.2 gX11_wedge_X11_needRange rfl rfl rfl ynX11_needRange ⟨Nat.le_of_ble_eq_true rfl, Nat.le_of_ble_eq_true rfl⟩) (dpS hE hP hS) rfl rfl hl.1 rfl (lv_room (Nat.le_of_ble_eq_true rfl)) dX11_wedge_5 ⟨Nat.le_of_ble_eq_true rfl, Nat.le_of_ble_eq_true rfl⟩) hS (fun u4 q9 ce H locs eo hP hS h1 h2 h3 => ?_) (fun m2 H locs eo hP hS => ?_)
  · subst eo
    have h := d_s1 h
    obtain rfl := Option.some.inj h
    exact dxout rfl hnt hlk hP hS h1 h2 h3 (Nat.le_of_ble_eq_true rfl) (Nat.le_of_ble_eq_true rfl)
  · subst eo
    have h := d_s2 h
    refine lv_aload_n S.1 S.2.1 dX11_wedge_8 rfl (lv_at hl 0 rfl) ?_
    refine dgf11_1 S in11 hE hP k0 (S.2.2.2.2 (.fieldLink RX11 19 "DrillField" "sets" "LDrillField$Sets;") (List.mem_of_getElem? (i := 1) rfl)) dX11_wedge_9 ?_
    refine lv_iload_n S.1 S.2.1 dX11_wedge_12 rfl (lv_at hl 1 rfl) ?_
    refine lv_iload_n S.1 S.2.1 dX11_wedge_13 rfl (lv_at hl 2 rfl) ?_
    refine lv_iload_n S.1 S.2.1 dX11_wedge_14 rfl (lv_at hl 3 rfl) ?_
    refine lv_aload_n S.1 S.2.1 dX11_wedge_15 rfl (lv_at hl 0 rfl) ?_
    refine dgf11_0 S in11 hE hP k0 (S.2.2.2.2 (.fieldLink RX11 10 "DrillField" "dots" "LDrillField$Dots;") (List.mem_of_getElem? (i := 2) rfl)) dX11_wedge_16 ?_
    obtain ⟨v6, hc5, h⟩ := d_b h
    refine dri (va_runV (As := []) (rest := [.int p3, .int p2, .int p1, .ref (dad g 6)]) S (kX1_number l g hc5) (cwV 0 S.2.2.2.2 gX11_wedge_X1_number rfl rfl rfl ynX1_number ⟨Nat.le_of_ble_eq_true rfl, Nat.le_of_ble_eq_true rfl⟩) (dpV hE hP hS (ci := 1) rfl (dat2 dk_1)) rfl rfl hl.1 rfl (lv_room (Nat.le_of_ble_eq_true rfl)) dX11_wedge_19 ⟨Nat.le_of_ble_eq_true rfl, Nat.le_of_ble_eq_true rfl⟩) hS (fun H locs hP hS => ?_)
    obtain ⟨m8, hc7, h⟩ := d_b h
    refine drv (va_runV (As := [.int p1, .int p2, .int p3, .int v6]) (rest := []) S (kX7_draftWedge l g hc7) (cwV 4 S.2.2.2.2 gX11_wedge_X7_draftWedge rfl rfl rfl ynX7_draftWedge ⟨Nat.le_of_ble_eq_true rfl, Nat.le_of_ble_eq_true rfl⟩) (dpV hE hP hS (ci := 7) rfl (dat8 dk_6)) rfl rfl hl.1 rfl (lv_room (Nat.le_of_ble_eq_true rfl)) dX11_wedge_22 ⟨Nat.le_of_ble_eq_true rfl, Nat.le_of_ble_eq_true rfl⟩) hS (fun H locs hP hS => ?_)
    refine lv_aload_n S.1 S.2.1 dX11_wedge_25 rfl (lv_at hl 0 rfl) ?_
    obtain ⟨q11, hc9, h⟩ := d_b h
    refine dxri (o := q11) (vx_runV (As := []) (rest := []) S (kX11_keepDraft l g hst hc9) (cwV 0 S.2.2.2.2 gX11_wedge_X11_keepDraft rfl rfl rfl ynX11_keepDraft ⟨Nat.le_of_ble_eq_true rfl, Nat.le_of_ble_eq_true rfl⟩) (dpV hE hP hS (ci := 11) rfl (dat12 k0)) rfl rfl hl.1 rfl (lv_room (Nat.le_of_ble_eq_true rfl)) dX11_wedge_26 ⟨Nat.le_of_ble_eq_true rfl, Nat.le_of_ble_eq_true rfl⟩) hS (fun u12 q9 ce H locs eo hP hS h1 h2 h3 => ?_) (fun v13 m10 H locs eo hP hS => ?_)
    · subst eo
      have h := d_s1 h
      obtain rfl := Option.some.inj h
      exact dxout rfl hnt hlk hP hS h1 h2 h3 (Nat.le_of_ble_eq_true rfl) (Nat.le_of_ble_eq_true rfl)
    · subst eo
      have h := d_s2 h
      have h := d_p2 h
      obtain rfl := Option.some.inj h
      exact dxti rfl S hr hlk hE hP hS rfl (Nat.le_of_ble_eq_true rfl) (Nat.le_of_ble_eq_true rfl) dX11_wedge_29
