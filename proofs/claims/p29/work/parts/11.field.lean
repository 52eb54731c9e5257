set_option maxRecDepth 20000 in
theorem ggX11_agrees_X8_number : GoodIn wsX11_agrees wsX8_number := goodIn_r _ [9, 10, 224, 225, 226, 227] (by decide +kernel) (by decide +kernel)
set_option maxRecDepth 20000 in
theorem gX11_agrees_X8_number : GoodIn wsX11_agrees (wsV RX11 134 RX8 yX8_number wsX8_number) := goodIn_app (goodIn_of _ (by decide +kernel)) ggX11_agrees_X8_number
set_option maxRecDepth 20000 in
theorem ggX11_agrees_X8_numbered : GoodIn wsX11_agrees wsX8_numbered := goodIn_r _ [14, 15, 16, 17, 18, 19, 224, 225, 226, 227] (by decide +kernel) (by decide +kernel)
set_option maxRecDepth 20000 in
theorem gX11_agrees_X8_numbered : GoodIn wsX11_agrees (wsV RX11 140 RX8 yX8_numbered wsX8_numbered) := goodIn_app (goodIn_of _ (by decide +kernel)) ggX11_agrees_X8_numbered
set_option maxRecDepth 20000 in
theorem ggX11_agrees_X10_look : GoodIn wsX11_agrees wsX10_look := goodIn_r _ [24, 25, 26, 27, 28, 29, 30, 31, 32, 33, 34, 35, 36, 37, 38, 39, 40, 41, 42, 43, 44, 45, 46, 47, 48, 49, 50, 51, 52, 53, 54, 23, 55, 56, 57, 17, 18, 19, 58, 59, 60, 61, 62, 63, 64, 65, 66, 67, 68, 69, 70, 71, 72, 73, 74, 75, 76, 77, 78, 79, 80, 81, 82, 83, 84, 85, 86, 87, 88, 89, 90, 91, 92, 93, 94, 95, 96, 97, 98, 99, 100, 101, 102, 103, 104, 105, 106, 107, 108, 109, 110, 111, 112, 113, 114, 115, 116, 117, 118, 119, 120, 121, 122, 123, 124, 125, 126, 127, 128, 129, 130, 131, 132, 133, 134, 135, 136, 137, 138, 139, 140, 141, 142, 143, 144, 145, 146, 147, 148, 149, 150, 228, 229, 230, 231, 232, 233, 234, 235, 236, 237, 238, 239, 240, 241, 242, 243, 244, 245, 246, 247, 248, 249] (by decide +kernel) (by decide +kernel)
set_option maxRecDepth 20000 in
theorem gX11_agrees_X10_look : GoodIn wsX11_agrees (wsV RX11 179 RX10 yX10_look wsX10_look) := goodIn_app (goodIn_of _ (by decide +kernel)) ggX11_agrees_X10_look
set_option maxRecDepth 20000 in
theorem ggX11_agrees_X6_look : GoodIn wsX11_agrees wsX6_look := goodIn_r _ [155, 156, 157, 158, 159, 160, 161, 162, 163, 28, 29, 30, 31, 32, 164, 34, 35, 36, 37, 38, 39, 40, 41, 42, 43, 44, 45, 165, 59, 60, 49, 61, 62, 63, 64, 65, 66, 67, 51, 68, 69, 70, 71, 72, 73, 74, 18, 75, 76, 77, 78, 79, 80, 81, 82, 83, 84, 85, 86, 87, 88, 89, 90, 91, 92, 93, 94, 166, 47, 48, 50, 167, 168, 169, 170, 171, 172, 173, 154, 174, 175, 176, 121, 122, 123, 124, 125, 177, 103, 104, 105, 106, 178, 179, 180, 181, 182, 96, 97, 98, 99, 100, 101, 183, 108, 109, 110, 111, 112, 113, 114, 115, 184, 185, 186, 187, 188, 189, 190, 191, 192, 193, 144, 145, 146, 147, 148, 149, 150, 194, 195, 196, 197, 198, 199, 200, 250, 251, 252, 253, 232, 233, 234, 235, 236, 237, 238, 239, 240, 241, 242, 243, 244, 245, 246, 247, 248, 249] (by decide +kernel) (by decide +kernel)
set_option maxRecDepth 20000 in
theorem gX11_agrees_X6_look : GoodIn wsX11_agrees (wsV RX11 188 RX6 yX6_look wsX6_look) := goodIn_app (goodIn_of _ (by decide +kernel)) ggX11_agrees_X6_look
set_option maxRecDepth 20000 in
theorem ggX11_agrees_X2_isSameAs : GoodIn wsX11_agrees wsX2_isSameAs := goodIn_r _ [204, 42, 43, 44, 45, 237, 238, 239, 240] (by decide +kernel) (by decide +kernel)
set_option maxRecDepth 20000 in
theorem gX11_agrees_X2_isSameAs : GoodIn wsX11_agrees (wsV RX11 189 RX2 yX2_isSameAs wsX2_isSameAs) := goodIn_app (goodIn_of _ (by decide +kernel)) ggX11_agrees_X2_isSameAs
set_option maxRecDepth 20000 in
theorem ggX11_agrees_X5_isLeast : GoodIn wsX11_agrees wsX5_isLeast := goodIn_r _ [208, 209, 241, 242, 243, 244, 245, 246, 247] (by decide +kernel) (by decide +kernel)
set_option maxRecDepth 20000 in
theorem gX11_agrees_X5_isLeast : GoodIn wsX11_agrees (wsV RX11 193 RX5 yX5_isLeast wsX5_isLeast) := goodIn_app (goodIn_of _ (by decide +kernel)) ggX11_agrees_X5_isLeast
set_option maxRecDepth 20000 in
theorem ggX11_agrees_X1_number : GoodIn wsX11_agrees wsX1_number := goodIn_r _ [31, 32, 232, 233, 234, 235, 236] (by decide +kernel) (by decide +kernel)
set_option maxRecDepth 20000 in
theorem gX11_agrees_X1_number : GoodIn wsX11_agrees (wsV RX11 119 RX1 yX1_number wsX1_number) := goodIn_app (goodIn_of _ (by decide +kernel)) ggX11_agrees_X1_number
set_option maxRecDepth 20000 in
theorem ggX11_agrees_X5_isBetterWithTwoChanged : GoodIn wsX11_agrees wsX5_isBetterWithTwoChanged := goodIn_r _ [214, 66, 67, 215, 121, 122, 71, 123, 73, 90, 74, 18, 75, 124, 125, 241, 242, 243, 244, 245, 246, 247, 248, 249] (by decide +kernel) (by decide +kernel)
set_option maxRecDepth 20000 in
theorem gX11_agrees_X5_isBetterWithTwoChanged : GoodIn wsX11_agrees (wsV RX11 197 RX5 yX5_isBetterWithTwoChanged wsX5_isBetterWithTwoChanged) := goodIn_app (goodIn_of _ (by decide +kernel)) ggX11_agrees_X5_isBetterWithTwoChanged
theorem dX11_agrees_0 : decode cX11_agrees 0 = .ok (.iconst 0, 1) := by decide +kernel
theorem dX11_agrees_1 : decode cX11_agrees 1 = .ok (.istore_n 1, 1) := by decide +kernel
theorem dX11_agrees_2 : decode cX11_agrees 2 = .ok (.iload_n 1, 1) := by decide +kernel
theorem dX11_agrees_3 : decode cX11_agrees 3 = .ok (.aload_n 0, 1) := by decide +kernel
theorem dX11_agrees_4 : decode cX11_agrees 4 = .ok (.getfield 26, 3) := by decide +kernel
theorem dX11_agrees_7 : decode cX11_agrees 7 = .ok (.invokevirtual 134, 3) := by decide +kernel
theorem dX11_agrees_10 : decode cX11_agrees 10 = .ok (.if_icmp .ge 77, 3) := by decide +kernel
theorem dX11_agrees_13 : decode cX11_agrees 13 = .ok (.aload_n 0, 1) := by decide +kernel
theorem dX11_agrees_14 : decode cX11_agrees 14 = .ok (.getfield 26, 3) := by decide +kernel
theorem dX11_agrees_17 : decode cX11_agrees 17 = .ok (.iload_n 1, 1) := by decide +kernel
theorem dX11_agrees_18 : decode cX11_agrees 18 = .ok (.invokevirtual 140, 3) := by decide +kernel
theorem dX11_agrees_21 : decode cX11_agrees 21 = .ok (.astore_n 2, 1) := by decide +kernel
theorem dX11_agrees_22 : decode cX11_agrees 22 = .ok (.aload_n 0, 1) := by decide +kernel
theorem dX11_agrees_23 : decode cX11_agrees 23 = .ok (.getfield 33, 3) := by decide +kernel
theorem dX11_agrees_26 : decode cX11_agrees 26 = .ok (.aload_n 2, 1) := by decide +kernel
theorem dX11_agrees_27 : decode cX11_agrees 27 = .ok (.aload_n 0, 1) := by decide +kernel
theorem dX11_agrees_28 : decode cX11_agrees 28 = .ok (.getfield 10, 3) := by decide +kernel
theorem dX11_agrees_31 : decode cX11_agrees 31 = .ok (.invokevirtual 179, 3) := by decide +kernel
theorem dX11_agrees_34 : decode cX11_agrees 34 = .ok (.aload_n 0, 1) := by decide +kernel
theorem dX11_agrees_35 : decode cX11_agrees 35 = .ok (.getfield 40, 3) := by decide +kernel
theorem dX11_agrees_38 : decode cX11_agrees 38 = .ok (.aload_n 2, 1) := by decide +kernel
theorem dX11_agrees_39 : decode cX11_agrees 39 = .ok (.aload_n 0, 1) := by decide +kernel
theorem dX11_agrees_40 : decode cX11_agrees 40 = .ok (.getfield 10, 3) := by decide +kernel
theorem dX11_agrees_43 : decode cX11_agrees 43 = .ok (.invokevirtual 188, 3) := by decide +kernel
theorem dX11_agrees_46 : decode cX11_agrees 46 = .ok (.invokevirtual 189, 3) := by decide +kernel
theorem dX11_agrees_49 : decode cX11_agrees 49 = .ok (.ifCond .ne 5, 3) := by decide +kernel
theorem dX11_agrees_52 : decode cX11_agrees 52 = .ok (.iconst 0, 1) := by decide +kernel
theorem dX11_agrees_53 : decode cX11_agrees 53 = .ok (.ireturn, 1) := by decide +kernel
theorem dX11_agrees_54 : decode cX11_agrees 54 = .ok (.iload_n 1, 1) := by decide +kernel
theorem dX11_agrees_55 : decode cX11_agrees 55 = .ok (.ifCond .le 26, 3) := by decide +kernel
theorem dX11_agrees_58 : decode cX11_agrees 58 = .ok (.aload_n 2, 1) := by decide +kernel
theorem dX11_agrees_59 : decode cX11_agrees 59 = .ok (.invokevirtual 193, 3) := by decide +kernel
theorem dX11_agrees_62 : decode cX11_agrees 62 = .ok (.ifCond .eq 19, 3) := by decide +kernel
theorem dX11_agrees_65 : decode cX11_agrees 65 = .ok (.aload_n 2, 1) := by decide +kernel
theorem dX11_agrees_66 : decode cX11_agrees 66 = .ok (.aload_n 0, 1) := by decide +kernel
theorem dX11_agrees_67 : decode cX11_agrees 67 = .ok (.getfield 10, 3) := by decide +kernel
theorem dX11_agrees_70 : decode cX11_agrees 70 = .ok (.invokevirtual 119, 3) := by decide +kernel
theorem dX11_agrees_73 : decode cX11_agrees 73 = .ok (.invokevirtual 197, 3) := by decide +kernel
theorem dX11_agrees_76 : decode cX11_agrees 76 = .ok (.ifCond .eq 5, 3) := by decide +kernel
theorem dX11_agrees_79 : decode cX11_agrees 79 = .ok (.iconst 0, 1) := by decide +kernel
theorem dX11_agrees_80 : decode cX11_agrees 80 = .ok (.ireturn, 1) := by decide +kernel
theorem dX11_agrees_81 : decode cX11_agrees 81 = .ok (.iinc 1 1, 3) := by decide +kernel
theorem dX11_agrees_84 : decode cX11_agrees 84 = .ok (.goto (-82), 3) := by decide +kernel
theorem dX11_agrees_87 : decode cX11_agrees 87 = .ok (.iconst 1, 1) := by decide +kernel
theorem dX11_agrees_88 : decode cX11_agrees 88 = .ok (.ireturn, 1) := by decide +kernel
def fX11_agrees_l2  (v2 : Int32) (m3 : dM) : Option ((Int32 × dM) ⊕ (dM ⊕ (dM ⊕ dM))) := (fX8_number m3 47).bind (fun v29 => if v29 ≤ v2 then some (.inr (.inr (.inr m3))) else (fX8_numbered m3 47 v2).bind (fun v31 => dg (dkg v31 6) ((fX10_look m3 171 v31 1).bind (fun q => dP2 q (fun v35 m34 => dg (dkg v35 3) ((fX6_look m34 372 v31 1).bind (fun q => dP2 q (fun v39 m38 => dg (dkg v39 3) ((fX2_isSameAs m38 v35 v39).bind (fun v42 => if v42 = 0 then some (.inr (.inl m38)) else if v2 ≤ 0 then dlet (v2 + 1 : Int32) (fun v43 => some (.inl (v43, m38))) else (fX5_isLeast m38 v31).bind (fun v45 => if v45 = 0 then dlet (v2 + 1 : Int32) (fun v46 => some (.inl (v46, m38))) else (fX1_number m38 1).bind (fun v48 => (fX5_isBetterWithTwoChanged m38 v31 v48).bind (fun v50 => if v50 = 0 then dlet (v2 + 1 : Int32) (fun v51 => some (.inl (v51, m38))) else some (.inr (.inr (.inl m38))))))))))))))))
def fX11_agrees (m : dM) (p0 : Nat) : Option (Int32 × dM) := dg (dkg p0 12) ((dlp (fun q => dP2 q (fun v2 m3 => fX11_agrees_l2 v2 m3)) dFl (0, m)).bind (fun q => dS q (fun q => dP1 q (fun m52 => some (0, m52))) (fun q => dS q (fun q => dP1 q (fun m53 => some (0, m53))) (fun q => dP1 q (fun m54 => some (1, m54))))))
set_option maxHeartbeats 4000000 in
set_option maxRecDepth 100000 in
theorem kX11_agrees (l : Launch) (g : dG) {m : dM} {p0 : Nat} {r0 : Int32} {m0 : dM} (h : fX11_agrees m p0 = some (r0, m0)) : dMet l g yX11_agrees wsX11_agrees (dRm 6 146) [.ref (dad g p0)] m (dQI g r0 m0) := by
  refine dof (cc := cX11_agrees) (maxL := 3) (ret := (some .boolean)) _ (plainFor_of_name (by decide)) rfl (Nat.le_of_ble_eq_true rfl) ?_
  intro p e s mth below meth c S hr hlk hE H ls hP hS hl
  have S : CallFix p mth c cX11_agrees 3 s _ wsX11_agrees RX11 := S
  have hl : lv_has ls 3 [(0, .ref (dad g p0))] := hl
  obtain ⟨locs, hlocs⟩ : ∃ z : List Loc, z = [] := ⟨_, rfl⟩
  rw [← hlocs] at hS ⊢
  have in11 : ∀ w ∈ wsX110, w ∈ wsX11_agrees := by decide +kernel
  unfold fX11_agrees at h
  obtain ⟨k0, h⟩ := d_g h
  have k0 := d_k k0
  refine lv_iconst (v := 0) S.1 S.2.1 dX11_agrees_0 (by decide) ?_
  refine lv_istore_n (lv' := [(1, .int 0), (0, .ref (dad g p0))]) S.1 S.2.1 dX11_agrees_1 rfl hl (by decide) rfl (fun ls hl => ?_)
  obtain ⟨qL1, hqL1, h⟩ := d_b h
  refine d_lp (Hd := fun q => match q with | (v2, m3) => ∀ (H : Heap) (locs : List Loc) (ls : Array Slot), va_P g.1 vwCl (dws g m3) H → va_S (dA g) s.heap H locs → lv_has ls 3 [(1, .int v2), (0, .ref (dad g p0))] → W p l e (headSpec wsX11_agrees (dRm 6 146)).room s mth (([.ref (dad g p0)] : List Value).toArray) below meth c H locs 0 0 (MQ below (dQI g r0 m0) (([.ref (dad g p0)] : List Value).toArray) s 0 0 (dA g)) (F0 mth 2 ls [])) (K := fun q => match q with | .inl q => (fun (m52 : _) => ∀ (H : Heap) (locs : List Loc) (ls : Array Slot), va_P g.1 vwCl (dws g m52) H → va_S (dA g) s.heap H locs → lv_has ls 3 [] → W p l e (headSpec wsX11_agrees (dRm 6 146)).room s mth (([.ref (dad g p0)] : List Value).toArray) below meth c H locs 0 0 (MQ below (dQI g r0 m0) (([.ref (dad g p0)] : List Value).toArray) s 0 0 (dA g)) (F0 mth 52 ls [])) q | .inr q => match q with | .inl q => (fun (m53 : _) => ∀ (H : Heap) (locs : List Loc) (ls : Array Slot), va_P g.1 vwCl (dws g m53) H → va_S (dA g) s.heap H locs → lv_has ls 3 [] → W p l e (headSpec wsX11_agrees (dRm 6 146)).room s mth (([.ref (dad g p0)] : List Value).toArray) below meth c H locs 0 0 (MQ below (dQI g r0 m0) (([.ref (dad g p0)] : List Value).toArray) s 0 0 (dA g)) (F0 mth 79 ls [])) q | .inr q => (fun (m54 : _) => ∀ (H : Heap) (locs : List Loc) (ls : Array Slot), va_P g.1 vwCl (dws g m54) H → va_S (dA g) s.heap H locs → lv_has ls 3 [] → W p l e (headSpec wsX11_agrees (dRm 6 146)).room s mth (([.ref (dad g p0)] : List Value).toArray) below meth c H locs 0 0 (MQ below (dQI g r0 m0) (([.ref (dad g p0)] : List Value).toArray) s 0 0 (dA g)) (F0 mth 87 ls [])) q) ?_ dFl _ qL1 hqL1 ?_ H locs ls hP hS (lv_sub hl [0, 1] rfl)
  · intro q o h hCL1 hEL1
    obtain ⟨v2, m3⟩ := q
    have h : fX11_agrees_l2 v2 m3 = some o := h
    intro H locs ls hP hS hl
    have hP : va_P g.1 vwCl (dws g m3) H := hP
    have hl : lv_has ls 3 [(1, .int v2), (0, .ref (dad g p0))] := hl
    unfold fX11_agrees_l2 at h
    refine lv_iload_n S.1 S.2.1 dX11_agrees_2 rfl (lv_at hl 0 rfl) ?_
    refine lv_aload_n S.1 S.2.1 dX11_agrees_3 rfl (lv_at hl 1 rfl) ?_
    refine dgf11_2 S in11 hE hP k0 (S.2.2.2.2 (.fieldLink RX11 26 "DrillField" "show" "LDrillField$Show;") (List.mem_of_getElem? (i := 1) rfl)) dX11_agrees_4 ?_
    obtain ⟨v29, hc28, h⟩ := d_b h
    refine dri (va_runV (As := []) (rest := [.int v2]) S (kX8_number l g hc28) (cwV 0 S.2.2.2.2 gX11_agrees_X8_number rfl rfl rfl ynX8_number ⟨Nat.le_of_ble_eq_true rfl, Nat.le_of_ble_eq_true rfl⟩) (dpV hE hP hS (ci := 8) rfl (dat9 dk_47)) rfl rfl hl.1 rfl (lv_room (Nat.le_of_ble_eq_true rfl)) dX11_agrees_7 ⟨Nat.le_of_ble_eq_true rfl, Nat.le_of_ble_eq_true rfl⟩) hS (fun H locs hP hS => ?_)
    refine lv_icmp_ge (tgt := 87) S.1 S.2.1 dX11_agrees_10 (by decide) (fun cq => ?_) (fun cq => ?_)
    · have h := d_t cq h
      obtain rfl := Option.some.inj h
      exact hEL1 _ rfl H locs ls hP hS (lv_sub hl [] rfl)
    · have h := d_f cq h
      refine lv_aload_n S.1 S.2.1 dX11_agrees_13 rfl (lv_at hl 1 rfl) ?_
      refine dgf11_2 S in11 hE hP k0 (S.2.2.2.2 (.fieldLink RX11 26 "DrillField" "show" "LDrillField$Show;") (List.mem_of_getElem? (i := 1) rfl)) dX11_agrees_14 ?_
      refine lv_iload_n S.1 S.2.1 dX11_agrees_17 rfl (lv_at hl 0 rfl) ?_
      obtain ⟨v31, hc30, h⟩ := d_b h
      obtain ⟨hk32, h⟩ := d_g h
      have hk32 := d_k hk32
      refine drr (va_runV (As := [.int v2]) (rest := []) S (kX8_numbered l g hc30) (cwV 1 S.2.2.2.2 gX11_agrees_X8_numbered rfl rfl rfl ynX8_numbered ⟨Nat.le_of_ble_eq_true rfl, Nat.le_of_ble_eq_true rfl⟩) (dpV hE hP hS (ci := 8) rfl (dat9 dk_47)) rfl rfl hl.1 rfl (lv_room (Nat.le_of_ble_eq_true rfl)) dX11_agrees_18 ⟨Nat.le_of_ble_eq_true rfl, Nat.le_of_ble_eq_true rfl⟩) hS (fun H locs hP hS => ?_)
      refine lv_astore_n (lv' := [(2, .ref (dad g v31)), (1, .int v2), (0, .ref (dad g p0))]) S.1 S.2.1 dX11_agrees_21 rfl hl (by decide) rfl (fun ls hl => ?_)
      refine lv_aload_n S.1 S.2.1 dX11_agrees_22 rfl (lv_at hl 2 rfl) ?_
      refine dgf11_3 S in11 hE hP k0 (S.2.2.2.2 (.fieldLink RX11 33 "DrillField" "watch" "LDrillField$Watch;") (List.mem_of_getElem? (i := 2) rfl)) dX11_agrees_23 ?_
      refine lv_aload_n S.1 S.2.1 dX11_agrees_26 rfl (lv_at hl 0 rfl) ?_
      refine lv_aload_n S.1 S.2.1 dX11_agrees_27 rfl (lv_at hl 2 rfl) ?_
      refine dgf11_0 S in11 hE hP k0 (S.2.2.2.2 (.fieldLink RX11 10 "DrillField" "dots" "LDrillField$Dots;") (List.mem_of_getElem? (i := 3) rfl)) dX11_agrees_28 ?_
      obtain ⟨⟨v35, m34⟩, hc33, h⟩ := d_b h
      have h := d_p2 h
      obtain ⟨hk36, h⟩ := d_g h
      have hk36 := d_k hk36
      refine drr (va_runV (As := [.ref (dad g v31), .ref (dad g 1)]) (rest := []) S (kX10_look l g hc33) (cwV 2 S.2.2.2.2 gX11_agrees_X10_look rfl rfl rfl ynX10_look ⟨Nat.le_of_ble_eq_true rfl, Nat.le_of_ble_eq_true rfl⟩) (dpV hE hP hS (ci := 10) rfl (dat11 dk_171)) rfl rfl hl.1 rfl (lv_room (Nat.le_of_ble_eq_true rfl)) dX11_agrees_31 ⟨Nat.le_of_ble_eq_true rfl, Nat.le_of_ble_eq_true rfl⟩) hS (fun H locs hP hS => ?_)
      refine lv_aload_n S.1 S.2.1 dX11_agrees_34 rfl (lv_at hl 2 rfl) ?_
      refine dgf11_4 S in11 hE hP k0 (S.2.2.2.2 (.fieldLink RX11 40 "DrillField" "recount" "LDrillField$Recount;") (List.mem_of_getElem? (i := 4) rfl)) dX11_agrees_35 ?_
      refine lv_aload_n S.1 S.2.1 dX11_agrees_38 rfl (lv_at hl 0 rfl) ?_
      refine lv_aload_n S.1 S.2.1 dX11_agrees_39 rfl (lv_at hl 2 rfl) ?_
      refine dgf11_0 S in11 hE hP k0 (S.2.2.2.2 (.fieldLink RX11 10 "DrillField" "dots" "LDrillField$Dots;") (List.mem_of_getElem? (i := 3) rfl)) dX11_agrees_40 ?_
      obtain ⟨⟨v39, m38⟩, hc37, h⟩ := d_b h
      have h := d_p2 h
      obtain ⟨hk40, h⟩ := d_g h
      have hk40 := d_k hk40
      refine drr (va_runV (As := [.ref (dad g v31), .ref (dad g 1)]) (rest := [.ref (dad g v35)]) S (kX6_look l g hc37) (cwV 2 S.2.2.2.2 gX11_agrees_X6_look rfl rfl rfl ynX6_look ⟨Nat.le_of_ble_eq_true rfl, Nat.le_of_ble_eq_true rfl⟩) (dpV hE hP hS (ci := 6) rfl (dat7 dk_372)) rfl rfl hl.1 rfl (lv_room (Nat.le_of_ble_eq_true rfl)) dX11_agrees_43 ⟨Nat.le_of_ble_eq_true rfl, Nat.le_of_ble_eq_true rfl⟩) hS (fun H locs hP hS => ?_)
      obtain ⟨v42, hc41, h⟩ := d_b h
      refine dri (va_runV (As := [.ref (dad g v39)]) (rest := []) S (kX2_isSameAs l g hc41) (cwV 1 S.2.2.2.2 gX11_agrees_X2_isSameAs rfl rfl rfl ynX2_isSameAs ⟨Nat.le_of_ble_eq_true rfl, Nat.le_of_ble_eq_true rfl⟩) (dpV hE hP hS (ci := 2) rfl (dat3 hk36)) rfl rfl hl.1 rfl (lv_room (Nat.le_of_ble_eq_true rfl)) dX11_agrees_46 ⟨Nat.le_of_ble_eq_true rfl, Nat.le_of_ble_eq_true rfl⟩) hS (fun H locs hP hS => ?_)
      refine lv_if_ne (tgt := 54) S.1 S.2.1 dX11_agrees_49 (by decide) (fun cq => ?_) (fun cq => ?_)
      · have h := d_f cq h
        refine lv_iload_n S.1 S.2.1 dX11_agrees_54 rfl (lv_at hl 1 rfl) ?_
        refine lv_if_le (tgt := 81) S.1 S.2.1 dX11_agrees_55 (by decide) (fun cq => ?_) (fun cq => ?_)
        · have h := d_t cq h
          obtain ⟨v43, ev43⟩ : ∃ z : Int32, z = v2 + 1 := ⟨_, rfl⟩
          have h := d_let ev43 h
          refine lv_iinc (v := v43) (lv' := [(1, .int v43), (2, .ref (dad g v31)), (0, .ref (dad g p0))]) S.1 S.2.1 dX11_agrees_81 hl (k := 1) rfl (by rw [ev43]; rfl) (by decide) rfl (fun ls hl => ?_)
          refine lv_goto (tgt := 2) S.1 S.2.1 dX11_agrees_84 (by decide) ?_
          obtain rfl := Option.some.inj h
          exact hCL1 _ rfl H locs ls hP hS (lv_sub hl [0, 2] rfl)
        · have h := d_f cq h
          refine lv_aload_n S.1 S.2.1 dX11_agrees_58 rfl (lv_at hl 0 rfl) ?_
          obtain ⟨v45, hc44, h⟩ := d_b h
          refine dri (va_runV (As := []) (rest := []) S (kX5_isLeast l g hc44) (cwV 0 S.2.2.2.2 gX11_agrees_X5_isLeast rfl rfl rfl ynX5_isLeast ⟨Nat.le_of_ble_eq_true rfl, Nat.le_of_ble_eq_true rfl⟩) (dpV hE hP hS (ci := 5) rfl (dat6 hk32)) rfl rfl hl.1 rfl (lv_room (Nat.le_of_ble_eq_true rfl)) dX11_agrees_59 ⟨Nat.le_of_ble_eq_true rfl, Nat.le_of_ble_eq_true rfl⟩) hS (fun H locs hP hS => ?_)
          refine lv_if_eq (tgt := 81) S.1 S.2.1 dX11_agrees_62 (by decide) (fun cq => ?_) (fun cq => ?_)
          · have h := d_t cq h
            obtain ⟨v46, ev46⟩ : ∃ z : Int32, z = v2 + 1 := ⟨_, rfl⟩
            have h := d_let ev46 h
            refine lv_iinc (v := v46) (lv' := [(1, .int v46), (2, .ref (dad g v31)), (0, .ref (dad g p0))]) S.1 S.2.1 dX11_agrees_81 hl (k := 1) rfl (by rw [ev46]; rfl) (by decide) rfl (fun ls hl => ?_)
            refine lv_goto (tgt := 2) S.1 S.2.1 dX11_agrees_84 (by decide) ?_
            obtain rfl := Option.some.inj h
            exact hCL1 _ rfl H locs ls hP hS (lv_sub hl [0, 2] rfl)
          · have h := d_f cq h
            refine lv_aload_n S.1 S.2.1 dX11_agrees_65 rfl (lv_at hl 0 rfl) ?_
            refine lv_aload_n S.1 S.2.1 dX11_agrees_66 rfl (lv_at hl 2 rfl) ?_
            refine dgf11_0 S in11 hE hP k0 (S.2.2.2.2 (.fieldLink RX11 10 "DrillField" "dots" "LDrillField$Dots;") (List.mem_of_getElem? (i := 3) rfl)) dX11_agrees_67 ?_
            obtain ⟨v48, hc47, h⟩ := d_b h
            refine dri (va_runV (As := []) (rest := [.ref (dad g v31)]) S (kX1_number l g hc47) (cwV 0 S.2.2.2.2 gX11_agrees_X1_number rfl rfl rfl ynX1_number ⟨Nat.le_of_ble_eq_true rfl, Nat.le_of_ble_eq_true rfl⟩) (dpV hE hP hS (ci := 1) rfl (dat2 dk_1)) rfl rfl hl.1 rfl (lv_room (Nat.le_of_ble_eq_true rfl)) dX11_agrees_70 ⟨Nat.le_of_ble_eq_true rfl, Nat.le_of_ble_eq_true rfl⟩) hS (fun H locs hP hS => ?_)
            obtain ⟨v50, hc49, h⟩ := d_b h
            refine dri (va_runV (As := [.int v48]) (rest := []) S (kX5_isBetterWithTwoChanged l g hc49) (cwV 1 S.2.2.2.2 gX11_agrees_X5_isBetterWithTwoChanged rfl rfl rfl ynX5_isBetterWithTwoChanged ⟨Nat.le_of_ble_eq_true rfl, Nat.le_of_ble_eq_true rfl⟩) (dpV hE hP hS (ci := 5) rfl (dat6 hk32)) rfl rfl hl.1 rfl (lv_room (Nat.le_of_ble_eq_true rfl)) dX11_agrees_73 ⟨Nat.le_of_ble_eq_true rfl, Nat.le_of_ble_eq_true rfl⟩) hS (fun H locs hP hS => ?_)
            refine lv_if_eq (tgt := 81) S.1 S.2.1 dX11_agrees_76 (by decide) (fun cq => ?_) (fun cq => ?_)
            · have h := d_t cq h
              obtain ⟨v51, ev51⟩ : ∃ z : Int32, z = v2 + 1 := ⟨_, rfl⟩
              have h := d_let ev51 h
              refine lv_iinc (v := v51) (lv' := [(1, .int v51), (2, .ref (dad g v31)), (0, .ref (dad g p0))]) S.1 S.2.1 dX11_agrees_81 hl (k := 1) rfl (by rw [ev51]; rfl) (by decide) rfl (fun ls hl => ?_)
              refine lv_goto (tgt := 2) S.1 S.2.1 dX11_agrees_84 (by decide) ?_
              obtain rfl := Option.some.inj h
              exact hCL1 _ rfl H locs ls hP hS (lv_sub hl [0, 2] rfl)
            · have h := d_f cq h
              obtain rfl := Option.some.inj h
              exact hEL1 _ rfl H locs ls hP hS (lv_sub hl [] rfl)
      · have h := d_t cq h
        obtain rfl := Option.some.inj h
        exact hEL1 _ rfl H locs ls hP hS (lv_sub hl [] rfl)
  · rcases qL1 with qL1a | qL1b
    · have h := d_s1 h
      obtain ⟨m52, rfl⟩ : ∃ z, z = qL1a := ⟨_, rfl⟩
      have h := d_p1 h
      intro H locs ls hP hS hl
      have hP : va_P g.1 vwCl (dws g m52) H := hP
      have hl : lv_has ls 3 [] := hl
      refine lv_iconst (v := 0) S.1 S.2.1 dX11_agrees_52 (by decide) ?_
      obtain ⟨rfl, rfl⟩ := Prod.mk.inj (Option.some.inj h)
      exact dti S hr hlk hE hP hS rfl dX11_agrees_53
    · have h := d_s2 h
      rcases qL1b with qL1ba | qL1bb
      · have h := d_s1 h
        obtain ⟨m53, rfl⟩ : ∃ z, z = qL1ba := ⟨_, rfl⟩
        have h := d_p1 h
        intro H locs ls hP hS hl
        have hP : va_P g.1 vwCl (dws g m53) H := hP
        have hl : lv_has ls 3 [] := hl
        refine lv_iconst (v := 0) S.1 S.2.1 dX11_agrees_79 (by decide) ?_
        obtain ⟨rfl, rfl⟩ := Prod.mk.inj (Option.some.inj h)
        exact dti S hr hlk hE hP hS rfl dX11_agrees_80
      · have h := d_s2 h
        obtain ⟨m54, rfl⟩ : ∃ z, z = qL1bb := ⟨_, rfl⟩
        have h := d_p1 h
        intro H locs ls hP hS hl
        have hP : va_P g.1 vwCl (dws g m54) H := hP
        have hl : lv_has ls 3 [] := hl
        refine lv_iconst (v := 1) S.1 S.2.1 dX11_agrees_87 (by decide) ?_
        obtain ⟨rfl, rfl⟩ := Prod.mk.inj (Option.some.inj h)
        exact dti S hr hlk hE hP hS rfl dX11_agrees_88
set_option maxRecDepth 20000 in
theorem ggX11_changed_X1_number : GoodIn wsX11_changed wsX1_number := goodIn_r _ [8, 9, 69, 70, 71, 72, 73] (by decide +kernel) (by decide +kernel)
set_option maxRecDepth 20000 in
theorem gX11_changed_X1_number : GoodIn wsX11_changed (wsV RX11 119 RX1 yX1_number wsX1_number) := goodIn_app (goodIn_of _ (by decide +kernel)) ggX11_changed_X1_number
set_option maxRecDepth 20000 in
theorem ggX11_changed_X3_countUnlike : GoodIn wsX11_changed wsX3_countUnlike := goodIn_r _ [14, 15, 16, 17, 18, 19, 20, 21, 22, 23, 24, 25, 26, 27, 28, 29, 30, 31, 13, 32, 33, 34, 35, 36, 37, 38, 39, 40, 41, 42, 43, 44, 45, 46, 47, 48, 49, 50, 51, 52, 53, 54, 55, 56, 57, 58, 59, 60, 74, 75, 76, 77, 78, 79, 80, 81, 82, 83, 84, 85, 86, 87, 88, 89] (by decide +kernel) (by decide +kernel)
set_option maxRecDepth 20000 in
theorem gX11_changed_X3_countUnlike : GoodIn wsX11_changed (wsV RX11 233 RX3 yX3_countUnlike wsX3_countUnlike) := goodIn_app (goodIn_of _ (by decide +kernel)) ggX11_changed_X3_countUnlike
theorem dX11_changed_0 : decode cX11_changed 0 = .ok (.aload_n 0, 1) := by decide +kernel
theorem dX11_changed_1 : decode cX11_changed 1 = .ok (.getfield 54, 3) := by decide +kernel
theorem dX11_changed_4 : decode cX11_changed 4 = .ok (.aload_n 0, 1) := by decide +kernel
theorem dX11_changed_5 : decode cX11_changed 5 = .ok (.getfield 26, 3) := by decide +kernel
theorem dX11_changed_8 : decode cX11_changed 8 = .ok (.aload_n 0, 1) := by decide +kernel
theorem dX11_changed_9 : decode cX11_changed 9 = .ok (.getfield 10, 3) := by decide +kernel
theorem dX11_changed_12 : decode cX11_changed 12 = .ok (.invokevirtual 119, 3) := by decide +kernel
theorem dX11_changed_15 : decode cX11_changed 15 = .ok (.invokevirtual 233, 3) := by decide +kernel
theorem dX11_changed_18 : decode cX11_changed 18 = .ok (.ireturn, 1) := by decide +kernel
def fX11_changed (m : dM) (p0 : Nat) : Option Int32 := dg (dkg p0 12) ((fX1_number m 1).bind (fun v2 => (fX3_countUnlike m 394 47 v2).bind (fun v4 => some v4)))
set_option maxHeartbeats 4000000 in
set_option maxRecDepth 100000 in
theorem kX11_changed (l : Launch) (g : dG) {m : dM} {p0 : Nat} {r0 : Int32} (h : fX11_changed m p0 = some r0) : dMet l g yX11_changed wsX11_changed (dRm 3 70) [.ref (dad g p0)] m (dQI g r0 m) := by
  refine dof (cc := cX11_changed) (maxL := 1) (ret := (some .int)) _ (plainFor_of_name (by decide)) rfl (Nat.le_of_ble_eq_true rfl) ?_
  intro p e s mth below meth c S hr hlk hE H ls hP hS hl
  have S : CallFix p mth c cX11_changed 1 s _ wsX11_changed RX11 := S
  have hl : lv_has ls 1 [(0, .ref (dad g p0))] := hl
  obtain ⟨locs, hlocs⟩ : ∃ z : List Loc, z = [] := ⟨_, rfl⟩
  rw [← hlocs] at hS ⊢
  have in11 : ∀ w ∈ wsX110, w ∈ wsX11_changed := by decide +kernel
  unfold fX11_changed at h
  obtain ⟨k0, h⟩ := d_g h
  have k0 := d_k k0
  refine lv_aload_n S.1 S.2.1 dX11_changed_0 rfl (lv_at hl 0 rfl) ?_
  refine dgf11_6 S in11 hE hP k0 (S.2.2.2.2 (.fieldLink RX11 54 "DrillField" "pages" "LDrillField$Pages;") (List.mem_of_getElem? (i := 1) rfl)) dX11_changed_1 ?_
  refine lv_aload_n S.1 S.2.1 dX11_changed_4 rfl (lv_at hl 0 rfl) ?_
  refine dgf11_2 S in11 hE hP k0 (S.2.2.2.2 (.fieldLink RX11 26 "DrillField" "show" "LDrillField$Show;") (List.mem_of_getElem? (i := 2) rfl)) dX11_changed_5 ?_
  refine lv_aload_n S.1 S.2.1 dX11_changed_8 rfl (lv_at hl 0 rfl) ?_
  refine dgf11_0 S in11 hE hP k0 (S.2.2.2.2 (.fieldLink RX11 10 "DrillField" "dots" "LDrillField$Dots;") (List.mem_of_getElem? (i := 3) rfl)) dX11_changed_9 ?_
  obtain ⟨v2, hc1, h⟩ := d_b h
  refine dri (va_runV (As := []) (rest := [.ref (dad g 47), .ref (dad g 394)]) S (kX1_number l g hc1) (cwV 0 S.2.2.2.2 gX11_changed_X1_number rfl rfl rfl ynX1_number ⟨Nat.le_of_ble_eq_true rfl, Nat.le_of_ble_eq_true rfl⟩) (dpV hE hP hS (ci := 1) rfl (dat2 dk_1)) rfl rfl hl.1 rfl (lv_room (Nat.le_of_ble_eq_true rfl)) dX11_changed_12 ⟨Nat.le_of_ble_eq_true rfl, Nat.le_of_ble_eq_true rfl⟩) hS (fun H locs hP hS => ?_)
  obtain ⟨v4, hc3, h⟩ := d_b h
  refine dri (va_runV (As := [.ref (dad g 47), .int v2]) (rest := []) S (kX3_countUnlike l g hc3) (cwV 2 S.2.2.2.2 gX11_changed_X3_countUnlike rfl rfl rfl ynX3_countUnlike ⟨Nat.le_of_ble_eq_true rfl, Nat.le_of_ble_eq_true rfl⟩) (dpV hE hP hS (ci := 3) rfl (dat4 dk_394)) rfl rfl hl.1 rfl (lv_room (Nat.le_of_ble_eq_true rfl)) dX11_changed_15 ⟨Nat.le_of_ble_eq_true rfl, Nat.le_of_ble_eq_true rfl⟩) hS (fun H locs hP hS => ?_)
  obtain rfl := Option.some.inj h
  exact dti S hr hlk hE hP hS rfl dX11_changed_18
set_option maxRecDepth 20000 in
theorem ggX11_lasts_X8_tenthsOfSeconds : GoodIn wsX11_lasts wsX8_tenthsOfSeconds := goodIn_r _ [6, 7, 8, 9, 10, 5, 11, 12, 13, 14, 15, 16, 17, 18, 19, 20, 21, 22, 23, 24, 25, 26, 27, 28, 29, 38, 39, 40, 41, 42, 43, 44, 45, 46, 47, 48] (by decide +kernel) (by decide +kernel)
set_option maxRecDepth 20000 in
theorem gX11_lasts_X8_tenthsOfSeconds : GoodIn wsX11_lasts (wsV RX11 241 RX8 yX8_tenthsOfSeconds wsX8_tenthsOfSeconds) := goodIn_app (goodIn_of _ (by decide +kernel)) ggX11_lasts_X8_tenthsOfSeconds
theorem dX11_lasts_0 : decode cX11_lasts 0 = .ok (.aload_n 0, 1) := by decide +kernel
theorem dX11_lasts_1 : decode cX11_lasts 1 = .ok (.getfield 26, 3) := by decide +kernel
theorem dX11_lasts_4 : decode cX11_lasts 4 = .ok (.invokevirtual 241, 3) := by decide +kernel
theorem dX11_lasts_7 : decode cX11_lasts 7 = .ok (.ireturn, 1) := by decide +kernel
def fX11_lasts (m : dM) (p0 : Nat) : Option Int32 := dg (dkg p0 12) ((fX8_tenthsOfSeconds m 47).bind (fun v2 => some v2))
set_option maxHeartbeats 4000000 in
set_option maxRecDepth 100000 in
theorem kX11_lasts (l : Launch) (g : dG) {m : dM} {p0 : Nat} {r0 : Int32} (h : fX11_lasts m p0 = some r0) : dMet l g yX11_lasts wsX11_lasts (dRm 4 85) [.ref (dad g p0)] m (dQI g r0 m) := by
  refine dof (cc := cX11_lasts) (maxL := 1) (ret := (some .int)) _ (plainFor_of_name (by decide)) rfl (Nat.le_of_ble_eq_true rfl) ?_
  intro p e s mth below meth c S hr hlk hE H ls hP hS hl
  have S : CallFix p mth c cX11_lasts 1 s _ wsX11_lasts RX11 := S
  have hl : lv_has ls 1 [(0, .ref (dad g p0))] := hl
  obtain ⟨locs, hlocs⟩ : ∃ z : List Loc, z = [] := ⟨_, rfl⟩
  rw [← hlocs] at hS ⊢
  have in11 : ∀ w ∈ wsX110, w ∈ wsX11_lasts := by decide +kernel
  unfold fX11_lasts at h
  obtain ⟨k0, h⟩ := d_g h
  have k0 := d_k k0
  refine lv_aload_n S.1 S.2.1 dX11_lasts_0 rfl (lv_at hl 0 rfl) ?_
  refine dgf11_2 S in11 hE hP k0 (S.2.2.2.2 (.fieldLink RX11 26 "DrillField" "show" "LDrillField$Show;") (List.mem_of_getElem? (i := 1) rfl)) dX11_lasts_1 ?_
  obtain ⟨v2, hc1, h⟩ := d_b h
  refine dri (va_runV (As := []) (rest := []) S (kX8_tenthsOfSeconds l g hc1) (cwV 0 S.2.2.2.2 gX11_lasts_X8_tenthsOfSeconds rfl rfl rfl ynX8_tenthsOfSeconds ⟨Nat.le_of_ble_eq_true rfl, Nat.le_of_ble_eq_true rfl⟩) (dpV hE hP hS (ci := 8) rfl (dat9 dk_47)) rfl rfl hl.1 rfl (lv_room (Nat.le_of_ble_eq_true rfl)) dX11_lasts_4 ⟨Nat.le_of_ble_eq_true rfl, Nat.le_of_ble_eq_true rfl⟩) hS (fun H locs hP hS => ?_)
  obtain rfl := Option.some.inj h
  exact dti S hr hlk hE hP hS rfl dX11_lasts_7
set_option maxRecDepth 20000 in
theorem ggX11_soundApart_X1_number : GoodIn wsX11_soundApart wsX1_number := goodIn_r _ [14, 15, 58, 59, 60, 61, 62] (by decide +kernel) (by decide +kernel)
set_option maxRecDepth 20000 in
theorem gX11_soundApart_X1_number : GoodIn wsX11_soundApart (wsV RX11 119 RX1 yX1_number wsX1_number) := goodIn_app (goodIn_of _ (by decide +kernel)) ggX11_soundApart_X1_number
set_option maxRecDepth 20000 in
theorem ggX11_soundApart_X1_marches : GoodIn wsX11_soundApart wsX1_marches := goodIn_r _ [19, 20, 21, 22, 23, 24, 25, 58, 59, 60, 61, 62] (by decide +kernel) (by decide +kernel)
set_option maxRecDepth 20000 in
theorem gX11_soundApart_X1_marches : GoodIn wsX11_soundApart (wsV RX11 99 RX1 yX1_marches wsX1_marches) := goodIn_app (goodIn_of _ (by decide +kernel)) ggX11_soundApart_X1_marches
set_option maxRecDepth 20000 in
theorem ggX11_soundApart_X9_x : GoodIn wsX11_soundApart wsX9_x := goodIn_r _ [30, 31, 23, 24, 25, 63, 64] (by decide +kernel) (by decide +kernel)
set_option maxRecDepth 20000 in
theorem gX11_soundApart_X9_x : GoodIn wsX11_soundApart (wsV RX11 221 RX9 yX9_x wsX9_x) := goodIn_app (goodIn_of _ (by decide +kernel)) ggX11_soundApart_X9_x
set_option maxRecDepth 20000 in
theorem ggX11_soundApart_X9_y : GoodIn wsX11_soundApart wsX9_y := goodIn_r _ [35, 36, 23, 24, 25, 63, 64] (by decide +kernel) (by decide +kernel)
set_option maxRecDepth 20000 in
theorem gX11_soundApart_X9_y : GoodIn wsX11_soundApart (wsV RX11 227 RX9 yX9_y wsX9_y) := goodIn_app (goodIn_of _ (by decide +kernel)) ggX11_soundApart_X9_y
set_option maxRecDepth 20000 in
theorem ggX11_soundApart_X11_square : GoodIn wsX11_soundApart wsX11_square := goodIn_r _ [39] (by decide +kernel) (by decide +kernel)
set_option maxRecDepth 20000 in
theorem gX11_soundApart_X11_square : GoodIn wsX11_soundApart (va_wsS RX11 280 yX11_square wsX11_square) := goodIn_app (goodIn_of _ (by decide +kernel)) ggX11_soundApart_X11_square
set_option maxRecDepth 20000 in
theorem ggX11_soundApart_X11_rootDown : GoodIn wsX11_soundApart wsX11_rootDown := goodIn_r _ [42] (by decide +kernel) (by decide +kernel)
set_option maxRecDepth 20000 in
theorem gX11_soundApart_X11_rootDown : GoodIn wsX11_soundApart (va_wsS RX11 283 yX11_rootDown wsX11_rootDown) := goodIn_app (goodIn_of _ (by decide +kernel)) ggX11_soundApart_X11_rootDown
set_option maxRecDepth 20000 in
theorem ggX11_soundApart_X11_downBy : GoodIn wsX11_soundApart wsX11_downBy := goodIn_r _ [45, 46, 47, 48, 49] (by decide +kernel) (by decide +kernel)
set_option maxRecDepth 20000 in
theorem gX11_soundApart_X11_downBy : GoodIn wsX11_soundApart (va_wsS RX11 286 yX11_downBy wsX11_downBy) := goodIn_app (goodIn_of _ (by decide +kernel)) ggX11_soundApart_X11_downBy
theorem dX11_soundApart_0 : decode cX11_soundApart 0 = .ok (.iconst (-1), 1) := by decide +kernel
theorem dX11_soundApart_1 : decode cX11_soundApart 1 = .ok (.istore_n 3, 1) := by decide +kernel
theorem dX11_soundApart_2 : decode cX11_soundApart 2 = .ok (.iconst (-1), 1) := by decide +kernel
theorem dX11_soundApart_3 : decode cX11_soundApart 3 = .ok (.istore 4, 2) := by decide +kernel
theorem dX11_soundApart_5 : decode cX11_soundApart 5 = .ok (.iconst 0, 1) := by decide +kernel
theorem dX11_soundApart_6 : decode cX11_soundApart 6 = .ok (.istore 5, 2) := by decide +kernel
theorem dX11_soundApart_8 : decode cX11_soundApart 8 = .ok (.iload 5, 2) := by decide +kernel
theorem dX11_soundApart_10 : decode cX11_soundApart 10 = .ok (.aload_n 0, 1) := by decide +kernel
theorem dX11_soundApart_11 : decode cX11_soundApart 11 = .ok (.getfield 10, 3) := by decide +kernel
theorem dX11_soundApart_14 : decode cX11_soundApart 14 = .ok (.invokevirtual 119, 3) := by decide +kernel
theorem dX11_soundApart_17 : decode cX11_soundApart 17 = .ok (.if_icmp .ge 86, 3) := by decide +kernel
theorem dX11_soundApart_20 : decode cX11_soundApart 20 = .ok (.aload_n 0, 1) := by decide +kernel
theorem dX11_soundApart_21 : decode cX11_soundApart 21 = .ok (.getfield 10, 3) := by decide +kernel
theorem dX11_soundApart_24 : decode cX11_soundApart 24 = .ok (.iload 5, 2) := by decide +kernel
theorem dX11_soundApart_26 : decode cX11_soundApart 26 = .ok (.invokevirtual 99, 3) := by decide +kernel
theorem dX11_soundApart_29 : decode cX11_soundApart 29 = .ok (.ifCond .eq 68, 3) := by decide +kernel
theorem dX11_soundApart_32 : decode cX11_soundApart 32 = .ok (.aload_n 0, 1) := by decide +kernel
theorem dX11_soundApart_33 : decode cX11_soundApart 33 = .ok (.getfield 47, 3) := by decide +kernel
theorem dX11_soundApart_36 : decode cX11_soundApart 36 = .ok (.iload 5, 2) := by decide +kernel
theorem dX11_soundApart_38 : decode cX11_soundApart 38 = .ok (.invokevirtual 221, 3) := by decide +kernel
theorem dX11_soundApart_41 : decode cX11_soundApart 41 = .ok (.iload_n 1, 1) := by decide +kernel
theorem dX11_soundApart_42 : decode cX11_soundApart 42 = .ok (.isub, 1) := by decide +kernel
theorem dX11_soundApart_43 : decode cX11_soundApart 43 = .ok (.aload_n 0, 1) := by decide +kernel
theorem dX11_soundApart_44 : decode cX11_soundApart 44 = .ok (.getfield 47, 3) := by decide +kernel
theorem dX11_soundApart_47 : decode cX11_soundApart 47 = .ok (.iload 5, 2) := by decide +kernel
theorem dX11_soundApart_49 : decode cX11_soundApart 49 = .ok (.invokevirtual 227, 3) := by decide +kernel
theorem dX11_soundApart_52 : decode cX11_soundApart 52 = .ok (.iload_n 2, 1) := by decide +kernel
theorem dX11_soundApart_53 : decode cX11_soundApart 53 = .ok (.isub, 1) := by decide +kernel
theorem dX11_soundApart_54 : decode cX11_soundApart 54 = .ok (.invokestatic 280, 3) := by decide +kernel
theorem dX11_soundApart_57 : decode cX11_soundApart 57 = .ok (.istore 6, 2) := by decide +kernel
theorem dX11_soundApart_59 : decode cX11_soundApart 59 = .ok (.iload 6, 2) := by decide +kernel
theorem dX11_soundApart_61 : decode cX11_soundApart 61 = .ok (.invokestatic 283, 3) := by decide +kernel
theorem dX11_soundApart_64 : decode cX11_soundApart 64 = .ok (.bipush 6, 2) := by decide +kernel
theorem dX11_soundApart_66 : decode cX11_soundApart 66 = .ok (.invokestatic 286, 3) := by decide +kernel
theorem dX11_soundApart_69 : decode cX11_soundApart 69 = .ok (.istore 7, 2) := by decide +kernel
theorem dX11_soundApart_71 : decode cX11_soundApart 71 = .ok (.iload_n 3, 1) := by decide +kernel
theorem dX11_soundApart_72 : decode cX11_soundApart 72 = .ok (.iconst (-1), 1) := by decide +kernel
theorem dX11_soundApart_73 : decode cX11_soundApart 73 = .ok (.if_icmp .ne 8, 3) := by decide +kernel
theorem dX11_soundApart_76 : decode cX11_soundApart 76 = .ok (.iload 7, 2) := by decide +kernel
theorem dX11_soundApart_78 : decode cX11_soundApart 78 = .ok (.goto 9, 3) := by decide +kernel
theorem dX11_soundApart_81 : decode cX11_soundApart 81 = .ok (.iload_n 3, 1) := by decide +kernel
theorem dX11_soundApart_82 : decode cX11_soundApart 82 = .ok (.iload 7, 2) := by decide +kernel
theorem dX11_soundApart_84 : decode cX11_soundApart 84 = .ok (.invokestatic 209, 3) := by decide +kernel
theorem dX11_soundApart_87 : decode cX11_soundApart 87 = .ok (.istore_n 3, 1) := by decide +kernel
theorem dX11_soundApart_88 : decode cX11_soundApart 88 = .ok (.iload 4, 2) := by decide +kernel
theorem dX11_soundApart_90 : decode cX11_soundApart 90 = .ok (.iload 7, 2) := by decide +kernel
theorem dX11_soundApart_92 : decode cX11_soundApart 92 = .ok (.invokestatic 289, 3) := by decide +kernel
theorem dX11_soundApart_95 : decode cX11_soundApart 95 = .ok (.istore 4, 2) := by decide +kernel
theorem dX11_soundApart_97 : decode cX11_soundApart 97 = .ok (.iinc 5 1, 3) := by decide +kernel
theorem dX11_soundApart_100 : decode cX11_soundApart 100 = .ok (.goto (-92), 3) := by decide +kernel
theorem dX11_soundApart_103 : decode cX11_soundApart 103 = .ok (.iload 4, 2) := by decide +kernel
theorem dX11_soundApart_105 : decode cX11_soundApart 105 = .ok (.iload_n 3, 1) := by decide +kernel
theorem dX11_soundApart_106 : decode cX11_soundApart 106 = .ok (.isub, 1) := by decide +kernel
theorem dX11_soundApart_107 : decode cX11_soundApart 107 = .ok (.ireturn, 1) := by decide +kernel
def fX11_soundApart_l8 (m : dM) (p1 : Int32) (p2 : Int32) (v2 : Int32) (v3 : Int32) (v4 : Int32) : Option ((Int32 × Int32 × Int32) ⊕ (Int32 × Int32)) := (fX1_number m 1).bind (fun v26 => if v26 ≤ v2 then some (.inr (v4, v3)) else (fX1_marches m 1 v2).bind (fun v28 => if v28 = 0 then dlet (v2 + 1 : Int32) (fun v29 => some (.inl (v29, v3, v4))) else (fX9_x m 391 v2).bind (fun v31 => (fX9_y m 391 v2).bind (fun v33 => (fX11_square m (v31 - p1) (v33 - p2)).bind (fun v35 => (fX11_rootDown m v35).bind (fun v37 => (fX11_downBy m v37 6).bind (fun v39 => if v4 = (-1) then dlet (if v3 < v39 then v39 else v3 : Int32) (fun v43 => dlet (v2 + 1 : Int32) (fun v44 => some (.inl (v44, v43, v39)))) else dlet (if v39 < v4 then v39 else v4 : Int32) (fun v40 => dlet (if v3 < v39 then v39 else v3 : Int32) (fun v41 => dlet (v2 + 1 : Int32) (fun v42 => some (.inl (v42, v41, v40))))))))))))
def fX11_soundApart (m : dM) (p0 : Nat) (p1 : Int32) (p2 : Int32) : Option Int32 := dg (dkg p0 12) ((dlp (fun q => dP3 q (fun v2 v3 v4 => fX11_soundApart_l8 m p1 p2 v2 v3 v4)) dFl (0, (-1), (-1))).bind (fun q => dP2 q (fun v45 v46 => some (v46 - v45))))
set_option maxHeartbeats 4000000 in
set_option maxRecDepth 100000 in
theorem kX11_soundApart (l : Launch) (g : dG) {m : dM} {p0 : Nat} {p1 : Int32} {p2 : Int32} {r0 : Int32} (h : fX11_soundApart m p0 p1 p2 = some r0) : dMet l g yX11_soundApart wsX11_soundApart (dRm 2 43) [.ref (dad g p0), .int p1, .int p2] m (dQI g r0 m) := by
  refine dof (cc := cX11_soundApart) (maxL := 8) (ret := (some .int)) _ (plainFor_of_name (by decide)) rfl (Nat.le_of_ble_eq_true rfl) ?_
  intro p e s mth below meth c S hr hlk hE H ls hP hS hl
  have S : CallFix p mth c cX11_soundApart 8 s _ wsX11_soundApart RX11 := S
  have hl : lv_has ls 8 [(0, .ref (dad g p0)), (1, .int p1), (2, .int p2)] := hl
  obtain ⟨locs, hlocs⟩ : ∃ z : List Loc, z = [] := ⟨_, rfl⟩
  rw [← hlocs] at hS ⊢
  have in11 : ∀ w ∈ wsX110, w ∈ wsX11_soundApart := by decide +kernel
  unfold fX11_soundApart at h
  obtain ⟨k0, h⟩ := d_g h
  have k0 := d_k k0
  refine lv_iconst (v := (-1)) S.1 S.2.1 dX11_soundApart_0 (by decide) ?_
  refine lv_istore_n (lv' := [(3, .int (-1)), (0, .ref (dad g p0)), (1, .int p1), (2, .int p2)]) S.1 S.2.1 dX11_soundApart_1 rfl hl (by decide) rfl (fun ls hl => ?_)
  refine lv_iconst (v := (-1)) S.1 S.2.1 dX11_soundApart_2 (by decide) ?_
  refine lv_istore (lv' := [(4, .int (-1)), (3, .int (-1)), (0, .ref (dad g p0)), (1, .int p1), (2, .int p2)]) S.1 S.2.1 dX11_soundApart_3 hl (by decide) rfl (fun ls hl => ?_)
  refine lv_iconst (v := 0) S.1 S.2.1 dX11_soundApart_5 (by decide) ?_
  refine lv_istore (lv' := [(5, .int 0), (4, .int (-1)), (3, .int (-1)), (0, .ref (dad g p0)), (1, .int p1), (2, .int p2)]) S.1 S.2.1 dX11_soundApart_6 hl (by decide) rfl (fun ls hl => ?_)
  obtain ⟨qL1, hqL1, h⟩ := d_b h
  refine d_lp (Hd := fun q => match q with | (v2, v3, v4) => ∀ (H : Heap) (locs : List Loc) (ls : Array Slot), va_P g.1 vwCl (dws g m) H → va_S (dA g) s.heap H locs → lv_has ls 8 [(5, .int v2), (4, .int v3), (3, .int v4), (0, .ref (dad g p0)), (1, .int p1), (2, .int p2)] → W p l e (headSpec wsX11_soundApart (dRm 2 43)).room s mth (([.ref (dad g p0), .int p1, .int p2] : List Value).toArray) below meth c H locs 0 0 (MQ below (dQI g r0 m) (([.ref (dad g p0), .int p1, .int p2] : List Value).toArray) s 0 0 (dA g)) (F0 mth 8 ls [])) (K := fun q => match q with | (v45, v46) => ∀ (H : Heap) (locs : List Loc) (ls : Array Slot), va_P g.1 vwCl (dws g m) H → va_S (dA g) s.heap H locs → lv_has ls 8 [(3, .int v45), (4, .int v46)] → W p l e (headSpec wsX11_soundApart (dRm 2 43)).room s mth (([.ref (dad g p0), .int p1, .int p2] : List Value).toArray) below meth c H locs 0 0 (MQ below (dQI g r0 m) (([.ref (dad g p0), .int p1, .int p2] : List Value).toArray) s 0 0 (dA g)) (F0 mth 103 ls [])) ?_ dFl _ qL1 hqL1 ?_ H locs ls hP hS (lv_sub hl [0, 1, 2, 3, 4, 5] rfl)
  · intro q o h hCL1 hEL1
    obtain ⟨v2, v3, v4⟩ := q
    have h : fX11_soundApart_l8 m p1 p2 v2 v3 v4 = some o := h
    intro H locs ls hP hS hl
    have hP : va_P g.1 vwCl (dws g m) H := hP
    have hl : lv_has ls 8 [(5, .int v2), (4, .int v3), (3, .int v4), (0, .ref (dad g p0)), (1, .int p1), (2, .int p2)] := hl
    unfold fX11_soundApart_l8 at h
    refine lv_iload S.1 S.2.1 dX11_soundApart_8 (lv_at hl 0 rfl) ?_
    refine lv_aload_n S.1 S.2.1 dX11_soundApart_10 rfl (lv_at hl 3 rfl) ?_
    refine dgf11_0 S in11 hE hP k0 (S.2.2.2.2 (.fieldLink RX11 10 "DrillField" "dots" "LDrillField$Dots;") (List.mem_of_getElem? (i := 1) rfl)) dX11_soundApart_11 ?_
    obtain ⟨v26, hc25, h⟩ := d_b h
    refine dri (va_runV (As := []) (rest := [.int v2]) S (kX1_number l g hc25) (cwV 0 S.2.2.2.2 gX11_soundApart_X1_number rfl rfl rfl ynX1_number ⟨Nat.le_of_ble_eq_true rfl, Nat.le_of_ble_eq_true rfl⟩) (dpV hE hP hS (ci := 1) rfl (dat2 dk_1)) rfl rfl hl.1 rfl (lv_room (Nat.le_of_ble_eq_true rfl)) dX11_soundApart_14 ⟨Nat.le_of_ble_eq_true rfl, Nat.le_of_ble_eq_true rfl⟩) hS (fun H locs hP hS => ?_)
    refine lv_icmp_ge (tgt := 103) S.1 S.2.1 dX11_soundApart_17 (by decide) (fun cq => ?_) (fun cq => ?_)
    · have h := d_t cq h
      obtain rfl := Option.some.inj h
      exact hEL1 _ rfl H locs ls hP hS (lv_sub hl [2, 1] rfl)
    · have h := d_f cq h
      refine lv_aload_n S.1 S.2.1 dX11_soundApart_20 rfl (lv_at hl 3 rfl) ?_
      refine dgf11_0 S in11 hE hP k0 (S.2.2.2.2 (.fieldLink RX11 10 "DrillField" "dots" "LDrillField$Dots;") (List.mem_of_getElem? (i := 1) rfl)) dX11_soundApart_21 ?_
      refine lv_iload S.1 S.2.1 dX11_soundApart_24 (lv_at hl 0 rfl) ?_
      obtain ⟨v28, hc27, h⟩ := d_b h
      refine dri (va_runV (As := [.int v2]) (rest := []) S (kX1_marches l g hc27) (cwV 1 S.2.2.2.2 gX11_soundApart_X1_marches rfl rfl rfl ynX1_marches ⟨Nat.le_of_ble_eq_true rfl, Nat.le_of_ble_eq_true rfl⟩) (dpV hE hP hS (ci := 1) rfl (dat2 dk_1)) rfl rfl hl.1 rfl (lv_room (Nat.le_of_ble_eq_true rfl)) dX11_soundApart_26 ⟨Nat.le_of_ble_eq_true rfl, Nat.le_of_ble_eq_true rfl⟩) hS (fun H locs hP hS => ?_)
      refine lv_if_eq (tgt := 97) S.1 S.2.1 dX11_soundApart_29 (by decide) (fun cq => ?_) (fun cq => ?_)
      · have h := d_t cq h
        obtain ⟨v29, ev29⟩ : ∃ z : Int32, z = v2 + 1 := ⟨_, rfl⟩
        have h := d_let ev29 h
        refine lv_iinc (v := v29) (lv' := [(5, .int v29), (4, .int v3), (3, .int v4), (0, .ref (dad g p0)), (1, .int p1), (2, .int p2)]) S.1 S.2.1 dX11_soundApart_97 hl (k := 0) rfl (by rw [ev29]; rfl) (by decide) rfl (fun ls hl => ?_)
        refine lv_goto (tgt := 8) S.1 S.2.1 dX11_soundApart_100 (by decide) ?_
        obtain rfl := Option.some.inj h
        exact hCL1 _ rfl H locs ls hP hS (lv_sub hl [0, 1, 2, 3, 4, 5] rfl)
      · have h := d_f cq h
        refine lv_aload_n S.1 S.2.1 dX11_soundApart_32 rfl (lv_at hl 3 rfl) ?_
        refine dgf11_5 S in11 hE hP k0 (S.2.2.2.2 (.fieldLink RX11 47 "DrillField" "sounding" "LDrillField$Spots;") (List.mem_of_getElem? (i := 2) rfl)) dX11_soundApart_33 ?_
        refine lv_iload S.1 S.2.1 dX11_soundApart_36 (lv_at hl 0 rfl) ?_
        obtain ⟨v31, hc30, h⟩ := d_b h
        refine dri (va_runV (As := [.int v2]) (rest := []) S (kX9_x l g hc30) (cwV 1 S.2.2.2.2 gX11_soundApart_X9_x rfl rfl rfl ynX9_x ⟨Nat.le_of_ble_eq_true rfl, Nat.le_of_ble_eq_true rfl⟩) (dpV hE hP hS (ci := 9) rfl (dat10 dk_391)) rfl rfl hl.1 rfl (lv_room (Nat.le_of_ble_eq_true rfl)) dX11_soundApart_38 ⟨Nat.le_of_ble_eq_true rfl, Nat.le_of_ble_eq_true rfl⟩) hS (fun H locs hP hS => ?_)
        refine lv_iload_n S.1 S.2.1 dX11_soundApart_41 rfl (lv_at hl 4 rfl) ?_
        refine lv_isub S.1 S.2.1 dX11_soundApart_42 ?_
        refine lv_aload_n S.1 S.2.1 dX11_soundApart_43 rfl (lv_at hl 3 rfl) ?_
        refine dgf11_5 S in11 hE hP k0 (S.2.2.2.2 (.fieldLink RX11 47 "DrillField" "sounding" "LDrillField$Spots;") (List.mem_of_getElem? (i := 2) rfl)) dX11_soundApart_44 ?_
        refine lv_iload S.1 S.2.1 dX11_soundApart_47 (lv_at hl 0 rfl) ?_
        obtain ⟨v33, hc32, h⟩ := d_b h
        refine dri (va_runV (As := [.int v2]) (rest := [.int (v31 - p1)]) S (kX9_y l g hc32) (cwV 1 S.2.2.2.2 gX11_soundApart_X9_y rfl rfl rfl ynX9_y ⟨Nat.le_of_ble_eq_true rfl, Nat.le_of_ble_eq_true rfl⟩) (dpV hE hP hS (ci := 9) rfl (dat10 dk_391)) rfl rfl hl.1 rfl (lv_room (Nat.le_of_ble_eq_true rfl)) dX11_soundApart_49 ⟨Nat.le_of_ble_eq_true rfl, Nat.le_of_ble_eq_true rfl⟩) hS (fun H locs hP hS => ?_)
        refine lv_iload_n S.1 S.2.1 dX11_soundApart_52 rfl (lv_at hl 5 rfl) ?_
        refine lv_isub S.1 S.2.1 dX11_soundApart_53 ?_
        obtain ⟨v35, hc34, h⟩ := d_b h
        refine dri (va_runS (As := [.int (v31 - p1), .int (v33 - p2)]) (rest := []) S (kX11_square l g hc34) (va_cwS 2 S.2.2.2.2 gX11_soundApart_X11_square rfl rfl rfl ynX11_square ⟨Nat.le_of_ble_eq_true rfl, Nat.le_of_ble_eq_true rfl⟩) (dpS hE hP hS) rfl rfl hl.1 rfl (lv_room (Nat.le_of_ble_eq_true rfl)) dX11_soundApart_54 ⟨Nat.le_of_ble_eq_true rfl, Nat.le_of_ble_eq_true rfl⟩) hS (fun H locs hP hS => ?_)
        refine lv_istore (lv' := [(6, .int v35), (5, .int v2), (4, .int v3), (3, .int v4), (0, .ref (dad g p0)), (1, .int p1), (2, .int p2)]) S.1 S.2.1 dX11_soundApart_57 hl (by decide) rfl (fun ls hl => ?_)
        refine lv_iload S.1 S.2.1 dX11_soundApart_59 (lv_at hl 0 rfl) ?_
        obtain ⟨v37, hc36, h⟩ := d_b h
        refine dri (va_runS (As := [.int v35]) (rest := []) S (kX11_rootDown l g hc36) (va_cwS 1 S.2.2.2.2 gX11_soundApart_X11_rootDown rfl rfl rfl ynX11_rootDown ⟨Nat.le_of_ble_eq_true rfl, Nat.le_of_ble_eq_true rfl⟩) (dpS hE hP hS) rfl rfl hl.1 rfl (lv_room (Nat.le_of_ble_eq_true rfl)) dX11_soundApart_61 ⟨Nat.le_of_ble_eq_true rfl, Nat.le_of_ble_eq_true rfl⟩) hS (fun H locs hP hS => ?_)
        refine lv_bipush (v := 6) S.1 S.2.1 dX11_soundApart_64 (by decide) ?_
        obtain ⟨v39, hc38, h⟩ := d_b h
        refine dri (va_runS (As := [.int v37, .int 6]) (rest := []) S (kX11_downBy l g hc38) (va_cwS 2 S.2.2.2.2 gX11_soundApart_X11_downBy rfl rfl rfl ynX11_downBy ⟨Nat.le_of_ble_eq_true rfl, Nat.le_of_ble_eq_true rfl⟩) (dpS hE hP hS) rfl rfl hl.1 rfl (lv_room (Nat.le_of_ble_eq_true rfl)) dX11_soundApart_66 ⟨Nat.le_of_ble_eq_true rfl, Nat.le_of_ble_eq_true rfl⟩) hS (fun H locs hP hS => ?_)
        refine lv_istore (lv' := [(7, .int v39), (6, .int v35), (5, .int v2), (4, .int v3), (3, .int v4), (0, .ref (dad g p0)), (1, .int p1), (2, .int p2)]) S.1 S.2.1 dX11_soundApart_69 hl (by decide) rfl (fun ls hl => ?_)
        refine lv_iload_n S.1 S.2.1 dX11_soundApart_71 rfl (lv_at hl 4 rfl) ?_
        refine lv_iconst (v := (-1)) S.1 S.2.1 dX11_soundApart_72 (by decide) ?_
        refine lv_icmp_ne (tgt := 81) S.1 S.2.1 dX11_soundApart_73 (by decide) (fun cq => ?_) (fun cq => ?_)
        · have h := d_f cq h
          refine lv_iload_n S.1 S.2.1 dX11_soundApart_81 rfl (lv_at hl 4 rfl) ?_
          refine lv_iload S.1 S.2.1 dX11_soundApart_82 (lv_at hl 0 rfl) ?_
          refine va_mmin S.1 S.2.1 (S.2.2.1.trans hl.1.symm) S.2.2.2.1 (S.2.2.2.2 (.methodLink RX11 209 Lib.Math.min.name) (List.mem_of_getElem? (i := 3) rfl)) (S.2.2.2.2 (.static Lib.Math.min.name) (List.mem_of_getElem? (i := 4) rfl)) (S.2.2.2.2 (.initialized "java/lang/Math") (List.mem_of_getElem? (i := 5) rfl)) (S.2.2.2.2 (.code Lib.Math.min.name Lib.Math.min.code 2 (some .int)) (List.mem_of_getElem? (i := 6) rfl)) (Nat.le_of_ble_eq_true rfl) (Nat.le_of_ble_eq_true rfl) (Nat.le_of_ble_eq_true rfl) (Nat.le_of_ble_eq_true rfl) dX11_soundApart_84 ?_
          refine lv_topi (fun v40 ev40 => ?_)
          have h := d_let ev40 h
          refine lv_istore_n (lv' := [(3, .int v40), (7, .int v39), (6, .int v35), (5, .int v2), (4, .int v3), (0, .ref (dad g p0)), (1, .int p1), (2, .int p2)]) S.1 S.2.1 dX11_soundApart_87 rfl hl (by decide) rfl (fun ls hl => ?_)
          refine lv_iload S.1 S.2.1 dX11_soundApart_88 (lv_at hl 4 rfl) ?_
          refine lv_iload S.1 S.2.1 dX11_soundApart_90 (lv_at hl 1 rfl) ?_
          refine va_mmax S.1 S.2.1 (S.2.2.1.trans hl.1.symm) S.2.2.2.1 (S.2.2.2.2 (.methodLink RX11 289 Lib.Math.max.name) (List.mem_of_getElem? (i := 7) rfl)) (S.2.2.2.2 (.static Lib.Math.max.name) (List.mem_of_getElem? (i := 8) rfl)) (S.2.2.2.2 (.initialized "java/lang/Math") (List.mem_of_getElem? (i := 5) rfl)) (S.2.2.2.2 (.code Lib.Math.max.name Lib.Math.max.code 2 (some .int)) (List.mem_of_getElem? (i := 9) rfl)) (Nat.le_of_ble_eq_true rfl) (Nat.le_of_ble_eq_true rfl) (Nat.le_of_ble_eq_true rfl) (Nat.le_of_ble_eq_true rfl) dX11_soundApart_92 ?_
          refine lv_topi (fun v41 ev41 => ?_)
          have h := d_let ev41 h
          refine lv_istore (lv' := [(4, .int v41), (3, .int v40), (7, .int v39), (6, .int v35), (5, .int v2), (0, .ref (dad g p0)), (1, .int p1), (2, .int p2)]) S.1 S.2.1 dX11_soundApart_95 hl (by decide) rfl (fun ls hl => ?_)
          obtain ⟨v42, ev42⟩ : ∃ z : Int32, z = v2 + 1 := ⟨_, rfl⟩
          have h := d_let ev42 h
          refine lv_iinc (v := v42) (lv' := [(5, .int v42), (4, .int v41), (3, .int v40), (7, .int v39), (6, .int v35), (0, .ref (dad g p0)), (1, .int p1), (2, .int p2)]) S.1 S.2.1 dX11_soundApart_97 hl (k := 4) rfl (by rw [ev42]; rfl) (by decide) rfl (fun ls hl => ?_)
          refine lv_goto (tgt := 8) S.1 S.2.1 dX11_soundApart_100 (by decide) ?_
          obtain rfl := Option.some.inj h
          exact hCL1 _ rfl H locs ls hP hS (lv_sub hl [0, 1, 2, 5, 6, 7] rfl)
        · have h := d_t cq h
          refine lv_iload S.1 S.2.1 dX11_soundApart_76 (lv_at hl 0 rfl) ?_
          refine lv_goto (tgt := 87) S.1 S.2.1 dX11_soundApart_78 (by decide) ?_
          refine lv_istore_n (lv' := [(3, .int v39), (7, .int v39), (6, .int v35), (5, .int v2), (4, .int v3), (0, .ref (dad g p0)), (1, .int p1), (2, .int p2)]) S.1 S.2.1 dX11_soundApart_87 rfl hl (by decide) rfl (fun ls hl => ?_)
          refine lv_iload S.1 S.2.1 dX11_soundApart_88 (lv_at hl 4 rfl) ?_
          refine lv_iload S.1 S.2.1 dX11_soundApart_90 (lv_at hl 1 rfl) ?_
          refine va_mmax S.1 S.2.1 (S.2.2.1.trans hl.1.symm) S.2.2.2.1 (S.2.2.2.2 (.methodLink RX11 289 Lib.Math.max.name) (List.mem_of_getElem? (i := 7) rfl)) (S.2.2.2.2 (.static Lib.Math.max.name) (List.mem_of_getElem? (i := 8) rfl)) (S.2.2.2.2 (.initialized "java/lang/Math") (List.mem_of_getElem? (i := 5) rfl)) (S.2.2.2.2 (.code Lib.Math.max.name Lib.Math.max.code 2 (some .int)) (List.mem_of_getElem? (i := 9) rfl)) (Nat.le_of_ble_eq_true rfl) (Nat.le_of_ble_eq_true rfl) (Nat.le_of_ble_eq_true rfl) (Nat.le_of_ble_eq_true rfl) dX11_soundApart_92 ?_
          refine lv_topi (fun v43 ev43 => ?_)
          have h := d_let ev43 h
          refine lv_istore (lv' := [(4, .int v43), (3, .int v39), (7, .int v39), (6, .int v35), (5, .int v2), (0, .ref (dad g p0)), (1, .int p1), (2, .int p2)]) S.1 S.2.1 dX11_soundApart_95 hl (by decide) rfl (fun ls hl => ?_)
          obtain ⟨v44, ev44⟩ : ∃ z : Int32, z = v2 + 1 := ⟨_, rfl⟩
          have h := d_let ev44 h
          refine lv_iinc (v := v44) (lv' := [(5, .int v44), (4, .int v43), (3, .int v39), (7, .int v39), (6, .int v35), (0, .ref (dad g p0)), (1, .int p1), (2, .int p2)]) S.1 S.2.1 dX11_soundApart_97 hl (k := 4) rfl (by rw [ev44]; rfl) (by decide) rfl (fun ls hl => ?_)
          refine lv_goto (tgt := 8) S.1 S.2.1 dX11_soundApart_100 (by decide) ?_
          obtain rfl := Option.some.inj h
          exact hCL1 _ rfl H locs ls hP hS (lv_sub hl [0, 1, 2, 5, 6, 7] rfl)
  · obtain ⟨v45, v46⟩ := qL1
    have h := d_p2 h
    intro H locs ls hP hS hl
    have hP : va_P g.1 vwCl (dws g m) H := hP
    have hl : lv_has ls 8 [(3, .int v45), (4, .int v46)] := hl
    refine lv_iload S.1 S.2.1 dX11_soundApart_103 (lv_at hl 1 rfl) ?_
    refine lv_iload_n S.1 S.2.1 dX11_soundApart_105 rfl (lv_at hl 0 rfl) ?_
    refine lv_isub S.1 S.2.1 dX11_soundApart_106 ?_
    obtain rfl := Option.some.inj h
    exact dti S hr hlk hE hP hS rfl dX11_soundApart_107
set_option maxRecDepth 20000 in
theorem ggX11_publish_X1_number : GoodIn wsX11_publish wsX1_number := goodIn_r _ [8, 9, 89, 90, 91, 92, 93] (by decide +kernel) (by decide +kernel)
set_option maxRecDepth 20000 in
theorem gX11_publish_X1_number : GoodIn wsX11_publish (wsV RX11 119 RX1 yX1_number wsX1_number) := goodIn_app (goodIn_of _ (by decide +kernel)) ggX11_publish_X1_number
set_option maxRecDepth 20000 in
theorem ggX11_publish_X3_countUnlike : GoodIn wsX11_publish wsX3_countUnlike := goodIn_r _ [14, 15, 16, 17, 18, 19, 20, 21, 22, 23, 24, 25, 26, 27, 28, 29, 30, 31, 13, 32, 33, 34, 35, 36, 37, 38, 39, 40, 41, 42, 43, 44, 45, 46, 47, 48, 49, 50, 51, 52, 53, 54, 55, 56, 57, 58, 59, 60, 94, 95, 96, 97, 98, 99, 100, 101, 102, 103, 104, 105, 106, 107, 108, 109] (by decide +kernel) (by decide +kernel)
set_option maxRecDepth 20000 in
theorem gX11_publish_X3_countUnlike : GoodIn wsX11_publish (wsV RX11 233 RX3 yX3_countUnlike wsX3_countUnlike) := goodIn_app (goodIn_of _ (by decide +kernel)) ggX11_publish_X3_countUnlike
set_option maxRecDepth 20000 in
theorem ggX11_publish_X3_keep : GoodIn wsX11_publish wsX3_keep := goodIn_r _ [64, 15, 23, 24, 25, 26, 27, 28, 29, 30, 31, 13, 32, 33, 34, 35, 36, 37, 38, 39, 40, 41, 42, 43, 44, 45, 46, 47, 48, 49, 65, 66, 67, 53, 68, 69, 70, 71, 72, 55, 57, 58, 73, 74, 75, 76, 56, 77, 78, 79, 80, 94, 95, 96, 97, 98, 99, 100, 101, 102, 103, 104, 105, 106, 107, 108, 109] (by decide +kernel) (by decide +kernel)
set_option maxRecDepth 20000 in
theorem gX11_publish_X3_keep : GoodIn wsX11_publish (wsV RX11 237 RX3 yX3_keep wsX3_keep) := goodIn_app (goodIn_of _ (by decide +kernel)) ggX11_publish_X3_keep
theorem dX11_publish_0 : decode cX11_publish 0 = .ok (.aload_n 0, 1) := by decide +kernel
theorem dX11_publish_1 : decode cX11_publish 1 = .ok (.getfield 54, 3) := by decide +kernel
theorem dX11_publish_4 : decode cX11_publish 4 = .ok (.aload_n 0, 1) := by decide +kernel
theorem dX11_publish_5 : decode cX11_publish 5 = .ok (.getfield 26, 3) := by decide +kernel
theorem dX11_publish_8 : decode cX11_publish 8 = .ok (.aload_n 0, 1) := by decide +kernel
theorem dX11_publish_9 : decode cX11_publish 9 = .ok (.getfield 10, 3) := by decide +kernel
theorem dX11_publish_12 : decode cX11_publish 12 = .ok (.invokevirtual 119, 3) := by decide +kernel
theorem dX11_publish_15 : decode cX11_publish 15 = .ok (.invokevirtual 233, 3) := by decide +kernel
theorem dX11_publish_18 : decode cX11_publish 18 = .ok (.istore_n 1, 1) := by decide +kernel
theorem dX11_publish_19 : decode cX11_publish 19 = .ok (.aload_n 0, 1) := by decide +kernel
theorem dX11_publish_20 : decode cX11_publish 20 = .ok (.getfield 54, 3) := by decide +kernel
theorem dX11_publish_23 : decode cX11_publish 23 = .ok (.aload_n 0, 1) := by decide +kernel
theorem dX11_publish_24 : decode cX11_publish 24 = .ok (.getfield 26, 3) := by decide +kernel
theorem dX11_publish_27 : decode cX11_publish 27 = .ok (.invokevirtual 237, 3) := by decide +kernel
theorem dX11_publish_30 : decode cX11_publish 30 = .ok (.iload_n 1, 1) := by decide +kernel
theorem dX11_publish_31 : decode cX11_publish 31 = .ok (.ireturn, 1) := by decide +kernel
def fX11_publish (m : dM) (p0 : Nat) : Option (Int32 × dM) := dg (dkg p0 12) ((fX1_number m 1).bind (fun v2 => (fX3_countUnlike m 394 47 v2).bind (fun v4 => (fX3_keep m 394 47).bind (fun m6 => some (v4, m6)))))
set_option maxHeartbeats 4000000 in
set_option maxRecDepth 100000 in
theorem kX11_publish (l : Launch) (g : dG) {m : dM} {p0 : Nat} {r0 : Int32} {m0 : dM} (h : fX11_publish m p0 = some (r0, m0)) : dMet l g yX11_publish wsX11_publish (dRm 4 87) [.ref (dad g p0)] m (dQI g r0 m0) := by
  refine dof (cc := cX11_publish) (maxL := 2) (ret := (some .int)) _ (plainFor_of_name (by decide)) rfl (Nat.le_of_ble_eq_true rfl) ?_
  intro p e s mth below meth c S hr hlk hE H ls hP hS hl
  have S : CallFix p mth c cX11_publish 2 s _ wsX11_publish RX11 := S
  have hl : lv_has ls 2 [(0, .ref (dad g p0))] := hl
  obtain ⟨locs, hlocs⟩ : ∃ z : List Loc, z = [] := ⟨_, rfl⟩
  rw [← hlocs] at hS ⊢
  have in11 : ∀ w ∈ wsX110, w ∈ wsX11_publish := by decide +kernel
  unfold fX11_publish at h
  obtain ⟨k0, h⟩ := d_g h
  have k0 := d_k k0
  refine lv_aload_n S.1 S.2.1 dX11_publish_0 rfl (lv_at hl 0 rfl) ?_
  refine dgf11_6 S in11 hE hP k0 (S.2.2.2.2 (.fieldLink RX11 54 "DrillField" "pages" "LDrillField$Pages;") (List.mem_of_getElem? (i := 1) rfl)) dX11_publish_1 ?_
  refine lv_aload_n S.1 S.2.1 dX11_publish_4 rfl (lv_at hl 0 rfl) ?_
  refine dgf11_2 S in11 hE hP k0 (S.2.2.2.2 (.fieldLink RX11 26 "DrillField" "show" "LDrillField$Show;") (List.mem_of_getElem? (i := 2) rfl)) dX11_publish_5 ?_
  refine lv_aload_n S.1 S.2.1 dX11_publish_8 rfl (lv_at hl 0 rfl) ?_
  refine dgf11_0 S in11 hE hP k0 (S.2.2.2.2 (.fieldLink RX11 10 "DrillField" "dots" "LDrillField$Dots;") (List.mem_of_getElem? (i := 3) rfl)) dX11_publish_9 ?_
  obtain ⟨v2, hc1, h⟩ := d_b h
  refine dri (va_runV (As := []) (rest := [.ref (dad g 47), .ref (dad g 394)]) S (kX1_number l g hc1) (cwV 0 S.2.2.2.2 gX11_publish_X1_number rfl rfl rfl ynX1_number ⟨Nat.le_of_ble_eq_true rfl, Nat.le_of_ble_eq_true rfl⟩) (dpV hE hP hS (ci := 1) rfl (dat2 dk_1)) rfl rfl hl.1 rfl (lv_room (Nat.le_of_ble_eq_true rfl)) dX11_publish_12 ⟨Nat.le_of_ble_eq_true rfl, Nat.le_of_ble_eq_true rfl⟩) hS (fun H locs hP hS => ?_)
  obtain ⟨v4, hc3, h⟩ := d_b h
  refine dri (va_runV (As := [.ref (dad g 47), .int v2]) (rest := []) S (kX3_countUnlike l g hc3) (cwV 2 S.2.2.2.2 gX11_publish_X3_countUnlike rfl rfl rfl ynX3_countUnlike ⟨Nat.le_of_ble_eq_true rfl, Nat.le_of_ble_eq_true rfl⟩) (dpV hE hP hS (ci := 3) rfl (dat4 dk_394)) rfl rfl hl.1 rfl (lv_room (Nat.le_of_ble_eq_true rfl)) dX11_publish_15 ⟨Nat.le_of_ble_eq_true rfl, Nat.le_of_ble_eq_true rfl⟩) hS (fun H locs hP hS => ?_)
  refine lv_istore_n (lv' := [(1, .int v4), (0, .ref (dad g p0))]) S.1 S.2.1 dX11_publish_18 rfl hl (by decide) rfl (fun ls hl => ?_)
  refine lv_aload_n S.1 S.2.1 dX11_publish_19 rfl (lv_at hl 1 rfl) ?_
  refine dgf11_6 S in11 hE hP k0 (S.2.2.2.2 (.fieldLink RX11 54 "DrillField" "pages" "LDrillField$Pages;") (List.mem_of_getElem? (i := 1) rfl)) dX11_publish_20 ?_
  refine lv_aload_n S.1 S.2.1 dX11_publish_23 rfl (lv_at hl 1 rfl) ?_
  refine dgf11_2 S in11 hE hP k0 (S.2.2.2.2 (.fieldLink RX11 26 "DrillField" "show" "LDrillField$Show;") (List.mem_of_getElem? (i := 2) rfl)) dX11_publish_24 ?_
  obtain ⟨m6, hc5, h⟩ := d_b h
  refine drv (va_runV (As := [.ref (dad g 47)]) (rest := []) S (kX3_keep l g hc5) (cwV 1 S.2.2.2.2 gX11_publish_X3_keep rfl rfl rfl ynX3_keep ⟨Nat.le_of_ble_eq_true rfl, Nat.le_of_ble_eq_true rfl⟩) (dpV hE hP hS (ci := 3) rfl (dat4 dk_394)) rfl rfl hl.1 rfl (lv_room (Nat.le_of_ble_eq_true rfl)) dX11_publish_27 ⟨Nat.le_of_ble_eq_true rfl, Nat.le_of_ble_eq_true rfl⟩) hS (fun H locs hP hS => ?_)
  refine lv_iload_n S.1 S.2.1 dX11_publish_30 rfl (lv_at hl 0 rfl) ?_
  obtain ⟨rfl, rfl⟩ := Prod.mk.inj (Option.some.inj h)
  exact dti S hr hlk hE hP hS rfl dX11_publish_31
