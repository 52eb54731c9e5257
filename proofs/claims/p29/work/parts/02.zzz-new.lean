theorem dI_at {i : Nat} : dI.1 i = dI1 i := rfl
theorem dI_z {i : Nat} (h : (decide (dK i = 20 ∨ dK i = 21 ∨ dK i = 22) && decide (i ≠ 435 ∧ i ≠ 1 ∧ i ≠ 2 ∧ i ≠ 445 ∧ i ≠ 4 ∧ i ≠ 447 ∧ i ≠ 444)) = true) : dI.1 i = fun _ => 0 := by
  rw [Bool.and_eq_true, decide_eq_true_eq, decide_eq_true_eq] at h
  exact dI_arr h.1 h.2
theorem dnqi_RX11_39 {g : dG} {U : State} (h : dEn0 g U) : va_Nw (.methodLinkNest RX11 39 yX6_init RX11) U := h.2.1 ("DrillField", 39, ⟨"DrillField$Recount", "<init>", "()V"⟩, "DrillField") (List.mem_append_right _ (List.mem_of_getElem? (i := 0) rfl))
theorem dnqi_RX11_46 {g : dG} {U : State} (h : dEn0 g U) : va_Nw (.methodLinkNest RX11 46 yX9_init RX11) U := h.2.1 ("DrillField", 46, ⟨"DrillField$Spots", "<init>", "()V"⟩, "DrillField") (List.mem_append_right _ (List.mem_of_getElem? (i := 1) rfl))
theorem dnqi_RX11_60 {g : dG} {U : State} (h : dEn0 g U) : va_Nw (.methodLinkNest RX11 60 yX0_init RX11) U := h.2.1 ("DrillField", 60, ⟨"DrillField$Contest", "<init>", "()V"⟩, "DrillField") (List.mem_append_right _ (List.mem_of_getElem? (i := 2) rfl))
theorem dnqi_RX3_17 {g : dG} {U : State} (h : dEn0 g U) : va_Nw (.methodLinkNest RX3 17 yX9_init RX11) U := h.2.1 ("DrillField$Pages", 17, ⟨"DrillField$Spots", "<init>", "()V"⟩, "DrillField") (List.mem_append_right _ (List.mem_of_getElem? (i := 3) rfl))
theorem dnqi_RX5_11 {g : dG} {U : State} (h : dEn0 g U) : va_Nw (.methodLinkNest RX5 11 yX9_init RX11) U := h.2.1 ("DrillField$Part", 11, ⟨"DrillField$Spots", "<init>", "()V"⟩, "DrillField") (List.mem_append_right _ (List.mem_of_getElem? (i := 4) rfl))
theorem dnqi_RX6_11 {g : dG} {U : State} (h : dEn0 g U) : va_Nw (.methodLinkNest RX6 11 yX9_init RX11) U := h.2.1 ("DrillField$Recount", 11, ⟨"DrillField$Spots", "<init>", "()V"⟩, "DrillField") (List.mem_append_right _ (List.mem_of_getElem? (i := 5) rfl))
theorem dnqi_RX6_28 {g : dG} {U : State} (h : dEn0 g U) : va_Nw (.methodLinkNest RX6 28 yX2_init RX11) U := h.2.1 ("DrillField$Recount", 28, ⟨"DrillField$Fault", "<init>", "()V"⟩, "DrillField") (List.mem_append_right _ (List.mem_of_getElem? (i := 6) rfl))
theorem dnqi_RX7_17 {g : dG} {U : State} (h : dEn0 g U) : va_Nw (.methodLinkNest RX7 17 yX9_init RX11) U := h.2.1 ("DrillField$Sets", 17, ⟨"DrillField$Spots", "<init>", "()V"⟩, "DrillField") (List.mem_append_right _ (List.mem_of_getElem? (i := 7) rfl))
theorem dnqi_RX8_17 {g : dG} {U : State} (h : dEn0 g U) : va_Nw (.methodLinkNest RX8 17 yX5_init RX11) U := h.2.1 ("DrillField$Show", 17, ⟨"DrillField$Part", "<init>", "()V"⟩, "DrillField") (List.mem_append_right _ (List.mem_of_getElem? (i := 8) rfl))
theorem dnqi_RX8_24 {g : dG} {U : State} (h : dEn0 g U) : va_Nw (.methodLinkNest RX8 24 yX4_init RX11) U := h.2.1 ("DrillField$Show", 24, ⟨"DrillField$Pairing", "<init>", "()V"⟩, "DrillField") (List.mem_append_right _ (List.mem_of_getElem? (i := 9) rfl))
theorem dnqi_RX10_17 {g : dG} {U : State} (h : dEn0 g U) : va_Nw (.methodLinkNest RX10 17 yX9_init RX11) U := h.2.1 ("DrillField$Watch", 17, ⟨"DrillField$Spots", "<init>", "()V"⟩, "DrillField") (List.mem_append_right _ (List.mem_of_getElem? (i := 10) rfl))
theorem dnqi_RX10_24 {g : dG} {U : State} (h : dEn0 g U) : va_Nw (.methodLinkNest RX10 24 yX2_init RX11) U := h.2.1 ("DrillField$Watch", 24, ⟨"DrillField$Fault", "<init>", "()V"⟩, "DrillField") (List.mem_append_right _ (List.mem_of_getElem? (i := 11) rfl))
theorem yniX0 : yX0_init.cls ≠ "java/lang/invoke/MethodHandle" ∧ yX0_init.cls ≠ "java/lang/invoke/VarHandle" ∧ (parseMethodDescriptor yX0_init.desc).map (fun d => d.parameters.length) = some 0 := by decide +kernel
theorem hfsX0 : ∀ j, j < 4 → defaultValue (tyX0 j) = vp_V [.null, .null, .int 0, .int 0] j := by
  intro j hj
  match j, hj with
  | 0, _ => rfl
  | 1, _ => rfl
  | 2, _ => rfl
  | 3, _ => rfl
  | n + 4, h => exact absurd h (by omega)
theorem yniX1 : yX1_init.cls ≠ "java/lang/invoke/MethodHandle" ∧ yX1_init.cls ≠ "java/lang/invoke/VarHandle" ∧ (parseMethodDescriptor yX1_init.desc).map (fun d => d.parameters.length) = some 0 := by decide +kernel
theorem hfsX1 : ∀ j, j < 5 → defaultValue (tyX1 j) = vp_V [.null, .null, .null, .null, .int 0] j := by
  intro j hj
  match j, hj with
  | 0, _ => rfl
  | 1, _ => rfl
  | 2, _ => rfl
  | 3, _ => rfl
  | 4, _ => rfl
  | n + 5, h => exact absurd h (by omega)
theorem yniX2 : yX2_init.cls ≠ "java/lang/invoke/MethodHandle" ∧ yX2_init.cls ≠ "java/lang/invoke/VarHandle" ∧ (parseMethodDescriptor yX2_init.desc).map (fun d => d.parameters.length) = some 0 := by decide +kernel
theorem hfsX2 : ∀ j, j < 4 → defaultValue (tyX2 j) = vp_V [.int 0, .int 0, .int 0, .int 0] j := by
  intro j hj
  match j, hj with
  | 0, _ => rfl
  | 1, _ => rfl
  | 2, _ => rfl
  | 3, _ => rfl
  | n + 4, h => exact absurd h (by omega)
theorem yniX3 : yX3_init.cls ≠ "java/lang/invoke/MethodHandle" ∧ yX3_init.cls ≠ "java/lang/invoke/VarHandle" ∧ (parseMethodDescriptor yX3_init.desc).map (fun d => d.parameters.length) = some 0 := by decide +kernel
theorem hfsX3 : ∀ j, j < 3 → defaultValue (tyX3 j) = vp_V [.null, .null, .int 0] j := by
  intro j hj
  match j, hj with
  | 0, _ => rfl
  | 1, _ => rfl
  | 2, _ => rfl
  | n + 3, h => exact absurd h (by omega)
theorem yniX4 : yX4_init.cls ≠ "java/lang/invoke/MethodHandle" ∧ yX4_init.cls ≠ "java/lang/invoke/VarHandle" ∧ (parseMethodDescriptor yX4_init.desc).map (fun d => d.parameters.length) = some 0 := by decide +kernel
theorem hfsX4 : ∀ j, j < 8 → defaultValue (tyX4 j) = vp_V [.null, .null, .null, .null, .null, .null, .null, .int 0] j := by
  intro j hj
  match j, hj with
  | 0, _ => rfl
  | 1, _ => rfl
  | 2, _ => rfl
  | 3, _ => rfl
  | 4, _ => rfl
  | 5, _ => rfl
  | 6, _ => rfl
  | 7, _ => rfl
  | n + 8, h => exact absurd h (by omega)
theorem yniX5 : yX5_init.cls ≠ "java/lang/invoke/MethodHandle" ∧ yX5_init.cls ≠ "java/lang/invoke/VarHandle" ∧ (parseMethodDescriptor yX5_init.desc).map (fun d => d.parameters.length) = some 0 := by decide +kernel
theorem hfsX5 : ∀ j, j < 7 → defaultValue (tyX5 j) = vp_V [.null, .null, .null, .int 0, .int 0, .int 0, .int 0] j := by
  intro j hj
  match j, hj with
  | 0, _ => rfl
  | 1, _ => rfl
  | 2, _ => rfl
  | 3, _ => rfl
  | 4, _ => rfl
  | 5, _ => rfl
  | 6, _ => rfl
  | n + 7, h => exact absurd h (by omega)
theorem yniX6 : yX6_init.cls ≠ "java/lang/invoke/MethodHandle" ∧ yX6_init.cls ≠ "java/lang/invoke/VarHandle" ∧ (parseMethodDescriptor yX6_init.desc).map (fun d => d.parameters.length) = some 0 := by decide +kernel
theorem hfsX6 : ∀ j, j < 4 → defaultValue (tyX6 j) = vp_V [.null, .null, .null, .null] j := by
  intro j hj
  match j, hj with
  | 0, _ => rfl
  | 1, _ => rfl
  | 2, _ => rfl
  | 3, _ => rfl
  | n + 4, h => exact absurd h (by omega)
theorem yniX7 : yX7_init.cls ≠ "java/lang/invoke/MethodHandle" ∧ yX7_init.cls ≠ "java/lang/invoke/VarHandle" ∧ (parseMethodDescriptor yX7_init.desc).map (fun d => d.parameters.length) = some 0 := by decide +kernel
theorem hfsX7 : ∀ j, j < 3 → defaultValue (tyX7 j) = vp_V [.null, .null, .int 0] j := by
  intro j hj
  match j, hj with
  | 0, _ => rfl
  | 1, _ => rfl
  | 2, _ => rfl
  | n + 3, h => exact absurd h (by omega)
theorem yniX8 : yX8_init.cls ≠ "java/lang/invoke/MethodHandle" ∧ yX8_init.cls ≠ "java/lang/invoke/VarHandle" ∧ (parseMethodDescriptor yX8_init.desc).map (fun d => d.parameters.length) = some 0 := by decide +kernel
theorem hfsX8 : ∀ j, j < 4 → defaultValue (tyX8 j) = vp_V [.null, .null, .null, .int 0] j := by
  intro j hj
  match j, hj with
  | 0, _ => rfl
  | 1, _ => rfl
  | 2, _ => rfl
  | 3, _ => rfl
  | n + 4, h => exact absurd h (by omega)
theorem yniX9 : yX9_init.cls ≠ "java/lang/invoke/MethodHandle" ∧ yX9_init.cls ≠ "java/lang/invoke/VarHandle" ∧ (parseMethodDescriptor yX9_init.desc).map (fun d => d.parameters.length) = some 0 := by decide +kernel
theorem hfsX9 : ∀ j, j < 2 → defaultValue (tyX9 j) = vp_V [.null, .null] j := by
  intro j hj
  match j, hj with
  | 0, _ => rfl
  | 1, _ => rfl
  | n + 2, h => exact absurd h (by omega)
theorem yniX10 : yX10_init.cls ≠ "java/lang/invoke/MethodHandle" ∧ yX10_init.cls ≠ "java/lang/invoke/VarHandle" ∧ (parseMethodDescriptor yX10_init.desc).map (fun d => d.parameters.length) = some 0 := by decide +kernel
theorem hfsX10 : ∀ j, j < 4 → defaultValue (tyX10 j) = vp_V [.null, .null, .null, .int 0] j := by
  intro j hj
  match j, hj with
  | 0, _ => rfl
  | 1, _ => rfl
  | 2, _ => rfl
  | 3, _ => rfl
  | n + 4, h => exact absurd h (by omega)
theorem yniX11 : yX11_init.cls ≠ "java/lang/invoke/MethodHandle" ∧ yX11_init.cls ≠ "java/lang/invoke/VarHandle" ∧ (parseMethodDescriptor yX11_init.desc).map (fun d => d.parameters.length) = some 0 := by decide +kernel
theorem hfsX11 : ∀ j, j < 8 → defaultValue (tyX11 j) = vp_V [.null, .null, .null, .null, .null, .null, .null, .null] j := by
  intro j hj
  match j, hj with
  | 0, _ => rfl
  | 1, _ => rfl
  | 2, _ => rfl
  | 3, _ => rfl
  | 4, _ => rfl
  | 5, _ => rfl
  | 6, _ => rfl
  | 7, _ => rfl
  | n + 8, h => exact absurd h (by omega)
theorem dlS1 {c : Nat} (h : dK c = 10) : dL (c + 1) = 10 := (dkr10 h).2.2.1
theorem dlS2 {c : Nat} (h : dK c = 10) : dL (c + 2) = 10 := (dkr10 h).2.2.2
theorem dlP7 {c : Nat} (h : dK c = 6) : dL (c + 7) = 10 := (dkr6 h).2.2.2
theorem d_and1 {a b : Bool} (h : (a && b) = true) : a = true := ((Bool.and_eq_true a b) ▸ h : a = true ∧ b = true).1
theorem d_and2 {a b : Bool} (h : (a && b) = true) : b = true := ((Bool.and_eq_true a b) ▸ h : a = true ∧ b = true).2
theorem dX9_init_0 : decode cX9_init 0 = .ok (.aload_n 0, 1) := by decide +kernel
theorem dX9_init_1 : decode cX9_init 1 = .ok (.invokespecial 3, 3) := by decide +kernel
theorem dX9_init_4 : decode cX9_init 4 = .ok (.aload_n 0, 1) := by decide +kernel
theorem dX9_init_5 : decode cX9_init 5 = .ok (.bipush 10, 2) := by decide +kernel
theorem dX9_init_7 : decode cX9_init 7 = .ok (.newarray .int, 2) := by decide +kernel
theorem dX9_init_9 : decode cX9_init 9 = .ok (.putfield 9, 3) := by decide +kernel
theorem dX9_init_12 : decode cX9_init 12 = .ok (.aload_n 0, 1) := by decide +kernel
theorem dX9_init_13 : decode cX9_init 13 = .ok (.bipush 10, 2) := by decide +kernel
theorem dX9_init_15 : decode cX9_init 15 = .ok (.newarray .int, 2) := by decide +kernel
theorem dX9_init_17 : decode cX9_init 17 = .ok (.putfield 15, 3) := by decide +kernel
theorem dX9_init_20 : decode cX9_init 20 = .ok (.return_, 1) := by decide +kernel
theorem ckX9 : ((List.range 444).all fun c => if dK c = 10 then (decide (dK (c + 1) = 20 ∨ dK (c + 1) = 21 ∨ dK (c + 1) = 22) && decide (c + 1 ≠ 435 ∧ c + 1 ≠ 1 ∧ c + 1 ≠ 2 ∧ c + 1 ≠ 445 ∧ c + 1 ≠ 4 ∧ c + 1 ≠ 447 ∧ c + 1 ≠ 444)) && (dApB [] (c + 1) 1) && (decide (dK (c + 2) = 20 ∨ dK (c + 2) = 21 ∨ dK (c + 2) = 22) && decide (c + 2 ≠ 435 ∧ c + 2 ≠ 1 ∧ c + 2 ≠ 2 ∧ c + 2 ≠ 445 ∧ c + 2 ≠ 4 ∧ c + 2 ≠ 447 ∧ c + 2 ≠ 444)) && (dApB ([] ++ List.range' (c + 1) 1) (c + 2) 1) && (decide (([c] ++ (([] ++ List.range' (c + 1) 1) ++ List.range' (c + 2) 1))).Nodup) && (dNo (([] ++ List.range' (c + 1) 1) ++ List.range' (c + 2) 1) [c]) && ((List.range' (c) 3).all fun i => (([c] ++ (([] ++ List.range' (c + 1) 1) ++ List.range' (c + 2) 1))).contains i) else true) = true := by decide +kernel
theorem ckX9_at {c : Nat} (hc : dK c = 10) : ((decide (dK (c + 1) = 20 ∨ dK (c + 1) = 21 ∨ dK (c + 1) = 22) && decide (c + 1 ≠ 435 ∧ c + 1 ≠ 1 ∧ c + 1 ≠ 2 ∧ c + 1 ≠ 445 ∧ c + 1 ≠ 4 ∧ c + 1 ≠ 447 ∧ c + 1 ≠ 444)) && (dApB [] (c + 1) 1) && (decide (dK (c + 2) = 20 ∨ dK (c + 2) = 21 ∨ dK (c + 2) = 22) && decide (c + 2 ≠ 435 ∧ c + 2 ≠ 1 ∧ c + 2 ≠ 2 ∧ c + 2 ≠ 445 ∧ c + 2 ≠ 4 ∧ c + 2 ≠ 447 ∧ c + 2 ≠ 444)) && (dApB ([] ++ List.range' (c + 1) 1) (c + 2) 1) && (decide (([c] ++ (([] ++ List.range' (c + 1) 1) ++ List.range' (c + 2) 1))).Nodup) && (dNo (([] ++ List.range' (c + 1) 1) ++ List.range' (c + 2) 1) [c]) && ((List.range' (c) 3).all fun i => (([c] ++ (([] ++ List.range' (c + 1) 1) ++ List.range' (c + 2) 1))).contains i)) = true := by have := List.all_eq_true.mp ckX9 c (List.mem_range.mpr (dK_lt hc (by decide))); simpa only [hc, if_true] using this
theorem ck_X9_0 {c : Nat} (hc : dK c = 10) : (decide (dK (c + 1) = 20 ∨ dK (c + 1) = 21 ∨ dK (c + 1) = 22) && decide (c + 1 ≠ 435 ∧ c + 1 ≠ 1 ∧ c + 1 ≠ 2 ∧ c + 1 ≠ 445 ∧ c + 1 ≠ 4 ∧ c + 1 ≠ 447 ∧ c + 1 ≠ 444)) = true := by have h := ckX9_at hc; exact (d_and1 (d_and1 (d_and1 (d_and1 (d_and1 (d_and1 h))))))
theorem ck_X9_1 {c : Nat} (hc : dK c = 10) : (dApB [] (c + 1) 1) = true := by have h := ckX9_at hc; exact (d_and2 (d_and1 (d_and1 (d_and1 (d_and1 (d_and1 h))))))
theorem ck_X9_2 {c : Nat} (hc : dK c = 10) : (decide (dK (c + 2) = 20 ∨ dK (c + 2) = 21 ∨ dK (c + 2) = 22) && decide (c + 2 ≠ 435 ∧ c + 2 ≠ 1 ∧ c + 2 ≠ 2 ∧ c + 2 ≠ 445 ∧ c + 2 ≠ 4 ∧ c + 2 ≠ 447 ∧ c + 2 ≠ 444)) = true := by have h := ckX9_at hc; exact (d_and2 (d_and1 (d_and1 (d_and1 (d_and1 h)))))
theorem ck_X9_3 {c : Nat} (hc : dK c = 10) : (dApB ([] ++ List.range' (c + 1) 1) (c + 2) 1) = true := by have h := ckX9_at hc; exact (d_and2 (d_and1 (d_and1 (d_and1 h))))
theorem ck_X9_4 {c : Nat} (hc : dK c = 10) : (decide (([c] ++ (([] ++ List.range' (c + 1) 1) ++ List.range' (c + 2) 1))).Nodup) = true := by have h := ckX9_at hc; exact (d_and2 (d_and1 (d_and1 h)))
theorem ck_X9_5 {c : Nat} (hc : dK c = 10) : (dNo (([] ++ List.range' (c + 1) 1) ++ List.range' (c + 2) 1) [c]) = true := by have h := ckX9_at hc; exact (d_and2 (d_and1 h))
theorem ck_X9_6 {c : Nat} (hc : dK c = 10) : ((List.range' (c) 3).all fun i => (([c] ++ (([] ++ List.range' (c + 1) 1) ++ List.range' (c + 2) 1))).contains i) = true := by have h := ckX9_at hc; exact (d_and2 h)
set_option maxHeartbeats 4000000 in
set_option maxRecDepth 100000 in
theorem kiX9 (l : Launch) (g : dG) {c : Nat} (hc : dK c = 10) : dCMet l g yX9_init wsX9_init 1 20 2 20 9 [.null, .null] dI (c) 3 := by
  refine dcof (cc := cX9_init) (maxL := 1) (by decide) rfl rfl (by decide) ?_
  intro a p e s mth below meth cd S hr hlk hin hE hba hA H ls hP hD hS hl
  have S : CallFix p mth cd cX9_init 1 s #[Value.ref a] wsX9_init RX9 := S
  have hAb : ∀ q, dAc a s.heap.size q → g.2.2.2 ≤ q := fun q h => by rcases h with rfl | h; exact hba; exact Nat.le_trans hE.2.2.2.2.2.1 h
  obtain ⟨locs, hlocs⟩ : ∃ z : List Loc, z = [] := ⟨_, rfl⟩
  rw [← hlocs] at hS ⊢
  have hP : va_P g.1 vwCl ([(a, .inr (9, [.null, .null]))] ++ dWL g (fun _ => 0) dI []) H := hP
  have hD : va_D (dAc a s.heap.size) ([(a, .inr (9, [.null, .null]))] ++ dWL g (fun _ => 0) dI []) := hD
  have in9 : ∀ w ∈ wsX90, w ∈ wsX9_init := by decide +kernel
  refine lv_aload_n S.1 S.2.1 dX9_init_0 rfl (lv_at hl 0 rfl) ?_
  refine W.objInit S.1 S.2.1 S.2.2.2.1 (S.2.2.2.2 (.methodLink RX9 3 objectInit) (List.mem_of_getElem? (i := 1) rfl)) (S.2.2.2.2 (.instanceMethod objectInit) (List.mem_of_getElem? (i := 2) rfl)) (S.2.2.2.2 (.code objectInit ⟨#[0xb1]⟩ 1 none) (List.mem_of_getElem? (i := 3) rfl)) rfl (hl.1.trans S.2.2.1.symm) rfl dX9_init_1 (Nat.le_of_ble_eq_true rfl) (Nat.le_of_ble_eq_true rfl) ?_
  refine W.eq (g2 := F0 mth 4 ls []) rfl ?_
  refine lv_aload_n S.1 S.2.1 dX9_init_4 rfl (lv_at hl 0 rfl) ?_
  refine lv_bipush (v := 10) S.1 S.2.1 dX9_init_5 (by decide) ?_
  refine d_newI (mm := dI) (N' := 10) (c + 1) (dkr10_1 hc) (dlS1 hc) (dI_z (ck_X9_0 hc)) S (S.2.2.2.2 (.arrayClass .int) (List.mem_of_getElem? (i := 4) rfl)) hE.1 hP hD hS hA (by decide) (by decide) (Nat.le_of_ble_eq_true rfl) (Nat.le_of_ble_eq_true rfl) (Nat.le_of_ble_eq_true rfl) dX9_init_7 (fun a1 H hP hD hS => ?_)
  obtain ⟨hP, hD⟩ := d_mix (dAp_of (ck_X9_1 hc)) hP hD
  refine va_putF (D := g.1) (ci := 9) (v := .ref (a1 (c + 1))) (ty := .array .int) (C := RX9) (T := TX9) (N := 2) S.1 S.2.1 S.2.2.2.2 in9 tyX9 tyX9_ok nmX9 S.2.2.2.1 hE.1 hP hD hS 0 rfl rfl 0 (by decide) (S.2.2.2.2 (.fieldLink RX9 9 "DrillField$Spots" "xs" "[I") (List.mem_of_getElem? (i := 5) rfl)) (fun _ h => h) rfl hin rfl (by decide +kernel) rfl rfl (Nat.le_of_ble_eq_true rfl) dX9_init_9 (fun H locs hP hD hS => ?_)
  have hP : va_P g.1 vwCl ([(a, .inr (9, [.ref (a1 (c + 1)), .null]))] ++ dWL g (dmix (fun _ => 0) a1 (c + 1) 1) dI ([] ++ List.range' (c + 1) 1)) H := hP
  have hD : va_D (dAc a s.heap.size) ([(a, .inr (9, [.ref (a1 (c + 1)), .null]))] ++ dWL g (dmix (fun _ => 0) a1 (c + 1) 1) dI ([] ++ List.range' (c + 1) 1)) := hD
  refine lv_aload_n S.1 S.2.1 dX9_init_12 rfl (lv_at hl 0 rfl) ?_
  refine lv_bipush (v := 10) S.1 S.2.1 dX9_init_13 (by decide) ?_
  refine d_newI (mm := dI) (N' := 10) (c + 2) (dkr10_2 hc) (dlS2 hc) (dI_z (ck_X9_2 hc)) S (S.2.2.2.2 (.arrayClass .int) (List.mem_of_getElem? (i := 4) rfl)) hE.1 hP hD hS hA (by decide) (by decide) (Nat.le_of_ble_eq_true rfl) (Nat.le_of_ble_eq_true rfl) (Nat.le_of_ble_eq_true rfl) dX9_init_15 (fun a2 H hP hD hS => ?_)
  obtain ⟨hP, hD⟩ := d_mix (dAp_of (ck_X9_3 hc)) hP hD
  refine va_putF (D := g.1) (ci := 9) (v := .ref (a2 (c + 2))) (ty := .array .int) (C := RX9) (T := TX9) (N := 2) S.1 S.2.1 S.2.2.2.2 in9 tyX9 tyX9_ok nmX9 S.2.2.2.1 hE.1 hP hD hS 0 rfl rfl 1 (by decide) (S.2.2.2.2 (.fieldLink RX9 15 "DrillField$Spots" "ys" "[I") (List.mem_of_getElem? (i := 6) rfl)) (fun _ h => h) rfl hin rfl (by decide +kernel) rfl rfl (Nat.le_of_ble_eq_true rfl) dX9_init_17 (fun H locs hP hD hS => ?_)
  have hP : va_P g.1 vwCl ([(a, .inr (9, [.ref (a1 (c + 1)), .ref (a2 (c + 2))]))] ++ dWL g (dmix (dmix (fun _ => 0) a1 (c + 1) 1) a2 (c + 2) 1) dI (([] ++ List.range' (c + 1) 1) ++ List.range' (c + 2) 1)) H := hP
  have hD : va_D (dAc a s.heap.size) ([(a, .inr (9, [.ref (a1 (c + 1)), .ref (a2 (c + 2))]))] ++ dWL g (dmix (dmix (fun _ => 0) a1 (c + 1) 1) a2 (c + 2) 1) dI (([] ++ List.range' (c + 1) 1) ++ List.range' (c + 2) 1)) := hD
  refine d_tc (ad := (fun j => if j = c then a else (dmix (dmix (fun _ => 0) a1 (c + 1) 1) a2 (c + 2) 1) j)) (ids := ([c] ++ (([] ++ List.range' (c + 1) 1) ++ List.range' (c + 2) 1))) S hr hlk ?_ (fun i h1 h2 => ?_) (if_pos rfl) (of_decide_eq_true (ck_X9_4 hc)) hP hD hS (Nat.le_of_ble_eq_true rfl) (Nat.le_of_ble_eq_true rfl) dX9_init_20
  · show (_ :: _) = (_ :: _)
    refine List.cons_eq_cons.mpr ⟨?_, ?_⟩
    · refine Prod.ext (by simp) ?_
      show _ = dct (dga g _) dI (c)
      rw [dck10 hc]
      simp [dmix, hc, dI_at, dI1]
    · exact dWL_no (xs := [c]) (ck_X9_5 hc) (fun j hj => by rw [if_neg (by simpa using hj)])
  · have := List.all_eq_true.mp (show ((List.range' (c) 3).all fun i => (([c] ++ (([] ++ List.range' (c + 1) 1) ++ List.range' (c + 2) 1))).contains i) = true from (ck_X9_6 hc)) i (List.mem_range'_1.mpr ⟨h1, h2⟩)
    simpa using this
theorem dX2_init_0 : decode cX2_init 0 = .ok (.aload_n 0, 1) := by decide +kernel
theorem dX2_init_1 : decode cX2_init 1 = .ok (.invokespecial 3, 3) := by decide +kernel
theorem dX2_init_4 : decode cX2_init 4 = .ok (.aload_n 0, 1) := by decide +kernel
theorem dX2_init_5 : decode cX2_init 5 = .ok (.iconst (-1), 1) := by decide +kernel
theorem dX2_init_6 : decode cX2_init 6 = .ok (.putfield 9, 3) := by decide +kernel
theorem dX2_init_9 : decode cX2_init 9 = .ok (.aload_n 0, 1) := by decide +kernel
theorem dX2_init_10 : decode cX2_init 10 = .ok (.iconst (-1), 1) := by decide +kernel
theorem dX2_init_11 : decode cX2_init 11 = .ok (.putfield 15, 3) := by decide +kernel
theorem dX2_init_14 : decode cX2_init 14 = .ok (.aload_n 0, 1) := by decide +kernel
theorem dX2_init_15 : decode cX2_init 15 = .ok (.iconst (-1), 1) := by decide +kernel
theorem dX2_init_16 : decode cX2_init 16 = .ok (.putfield 18, 3) := by decide +kernel
theorem dX2_init_19 : decode cX2_init 19 = .ok (.aload_n 0, 1) := by decide +kernel
theorem dX2_init_20 : decode cX2_init 20 = .ok (.iconst (-1), 1) := by decide +kernel
theorem dX2_init_21 : decode cX2_init 21 = .ok (.putfield 21, 3) := by decide +kernel
theorem dX2_init_24 : decode cX2_init 24 = .ok (.return_, 1) := by decide +kernel
theorem ckX2 : ((List.range 444).all fun c => if dK c = 3 then (decide (([c] ++ [])).Nodup) && (dNo [] [c]) && ((List.range' (c) 1).all fun i => (([c] ++ [])).contains i) else true) = true := by decide +kernel
theorem ckX2_at {c : Nat} (hc : dK c = 3) : ((decide (([c] ++ [])).Nodup) && (dNo [] [c]) && ((List.range' (c) 1).all fun i => (([c] ++ [])).contains i)) = true := by have := List.all_eq_true.mp ckX2 c (List.mem_range.mpr (dK_lt hc (by decide))); simpa only [hc, if_true] using this
theorem ck_X2_0 {c : Nat} (hc : dK c = 3) : (decide (([c] ++ [])).Nodup) = true := by have h := ckX2_at hc; exact (d_and1 (d_and1 h))
theorem ck_X2_1 {c : Nat} (hc : dK c = 3) : (dNo [] [c]) = true := by have h := ckX2_at hc; exact (d_and2 (d_and1 h))
theorem ck_X2_2 {c : Nat} (hc : dK c = 3) : ((List.range' (c) 1).all fun i => (([c] ++ [])).contains i) = true := by have h := ckX2_at hc; exact (d_and2 h)
set_option maxHeartbeats 4000000 in
set_option maxRecDepth 100000 in
theorem kiX2 (l : Launch) (g : dG) {c : Nat} (hc : dK c = 3) : dCMet l g yX2_init wsX2_init 1 20 0 0 2 [.int 0, .int 0, .int 0, .int 0] dI (c) 1 := by
  refine dcof (cc := cX2_init) (maxL := 1) (by decide) rfl rfl (by decide) ?_
  intro a p e s mth below meth cd S hr hlk hin hE hba hA H ls hP hD hS hl
  have S : CallFix p mth cd cX2_init 1 s #[Value.ref a] wsX2_init RX2 := S
  have hAb : ∀ q, dAc a s.heap.size q → g.2.2.2 ≤ q := fun q h => by rcases h with rfl | h; exact hba; exact Nat.le_trans hE.2.2.2.2.2.1 h
  obtain ⟨locs, hlocs⟩ : ∃ z : List Loc, z = [] := ⟨_, rfl⟩
  rw [← hlocs] at hS ⊢
  have hP : va_P g.1 vwCl ([(a, .inr (2, [.int 0, .int 0, .int 0, .int 0]))] ++ dWL g (fun _ => 0) dI []) H := hP
  have hD : va_D (dAc a s.heap.size) ([(a, .inr (2, [.int 0, .int 0, .int 0, .int 0]))] ++ dWL g (fun _ => 0) dI []) := hD
  have in2 : ∀ w ∈ wsX20, w ∈ wsX2_init := by decide +kernel
  refine lv_aload_n S.1 S.2.1 dX2_init_0 rfl (lv_at hl 0 rfl) ?_
  refine W.objInit S.1 S.2.1 S.2.2.2.1 (S.2.2.2.2 (.methodLink RX2 3 objectInit) (List.mem_of_getElem? (i := 1) rfl)) (S.2.2.2.2 (.instanceMethod objectInit) (List.mem_of_getElem? (i := 2) rfl)) (S.2.2.2.2 (.code objectInit ⟨#[0xb1]⟩ 1 none) (List.mem_of_getElem? (i := 3) rfl)) rfl (hl.1.trans S.2.2.1.symm) rfl dX2_init_1 (Nat.le_of_ble_eq_true rfl) (Nat.le_of_ble_eq_true rfl) ?_
  refine W.eq (g2 := F0 mth 4 ls []) rfl ?_
  refine lv_aload_n S.1 S.2.1 dX2_init_4 rfl (lv_at hl 0 rfl) ?_
  refine lv_iconst (v := (-1)) S.1 S.2.1 dX2_init_5 (by decide) ?_
  refine va_put (D := g.1) (ci := 2) (v := .int (-1)) (ty := .int) (C := RX2) (T := TX2) (N := 4) S.1 S.2.1 S.2.2.2.2 in2 tyX2 tyX2_ok nmX2 S.2.2.2.1 hE.1 hP hD hS 0 rfl rfl 0 (by decide) (S.2.2.2.2 (.fieldLink RX2 9 "DrillField$Fault" "count" "I") (List.mem_of_getElem? (i := 4) rfl)) (fun _ h => h) rfl (by decide +kernel) rfl rfl (Nat.le_of_ble_eq_true rfl) dX2_init_6 (fun H locs hP hD hS => ?_)
  have hP : va_P g.1 vwCl ([(a, .inr (2, [.int (-1), .int 0, .int 0, .int 0]))] ++ dWL g (fun _ => 0) dI []) H := hP
  have hD : va_D (dAc a s.heap.size) ([(a, .inr (2, [.int (-1), .int 0, .int 0, .int 0]))] ++ dWL g (fun _ => 0) dI []) := hD
  refine lv_aload_n S.1 S.2.1 dX2_init_9 rfl (lv_at hl 0 rfl) ?_
  refine lv_iconst (v := (-1)) S.1 S.2.1 dX2_init_10 (by decide) ?_
  refine va_put (D := g.1) (ci := 2) (v := .int (-1)) (ty := .int) (C := RX2) (T := TX2) (N := 4) S.1 S.2.1 S.2.2.2.2 in2 tyX2 tyX2_ok nmX2 S.2.2.2.1 hE.1 hP hD hS 0 rfl rfl 1 (by decide) (S.2.2.2.2 (.fieldLink RX2 15 "DrillField$Fault" "kind" "I") (List.mem_of_getElem? (i := 5) rfl)) (fun _ h => h) rfl (by decide +kernel) rfl rfl (Nat.le_of_ble_eq_true rfl) dX2_init_11 (fun H locs hP hD hS => ?_)
  have hP : va_P g.1 vwCl ([(a, .inr (2, [.int (-1), .int (-1), .int 0, .int 0]))] ++ dWL g (fun _ => 0) dI []) H := hP
  have hD : va_D (dAc a s.heap.size) ([(a, .inr (2, [.int (-1), .int (-1), .int 0, .int 0]))] ++ dWL g (fun _ => 0) dI []) := hD
  refine lv_aload_n S.1 S.2.1 dX2_init_14 rfl (lv_at hl 0 rfl) ?_
  refine lv_iconst (v := (-1)) S.1 S.2.1 dX2_init_15 (by decide) ?_
  refine va_put (D := g.1) (ci := 2) (v := .int (-1)) (ty := .int) (C := RX2) (T := TX2) (N := 4) S.1 S.2.1 S.2.2.2.2 in2 tyX2 tyX2_ok nmX2 S.2.2.2.1 hE.1 hP hD hS 0 rfl rfl 2 (by decide) (S.2.2.2.2 (.fieldLink RX2 18 "DrillField$Fault" "dot" "I") (List.mem_of_getElem? (i := 6) rfl)) (fun _ h => h) rfl (by decide +kernel) rfl rfl (Nat.le_of_ble_eq_true rfl) dX2_init_16 (fun H locs hP hD hS => ?_)
  have hP : va_P g.1 vwCl ([(a, .inr (2, [.int (-1), .int (-1), .int (-1), .int 0]))] ++ dWL g (fun _ => 0) dI []) H := hP
  have hD : va_D (dAc a s.heap.size) ([(a, .inr (2, [.int (-1), .int (-1), .int (-1), .int 0]))] ++ dWL g (fun _ => 0) dI []) := hD
  refine lv_aload_n S.1 S.2.1 dX2_init_19 rfl (lv_at hl 0 rfl) ?_
  refine lv_iconst (v := (-1)) S.1 S.2.1 dX2_init_20 (by decide) ?_
  refine va_put (D := g.1) (ci := 2) (v := .int (-1)) (ty := .int) (C := RX2) (T := TX2) (N := 4) S.1 S.2.1 S.2.2.2.2 in2 tyX2 tyX2_ok nmX2 S.2.2.2.1 hE.1 hP hD hS 0 rfl rfl 3 (by decide) (S.2.2.2.2 (.fieldLink RX2 21 "DrillField$Fault" "other" "I") (List.mem_of_getElem? (i := 7) rfl)) (fun _ h => h) rfl (by decide +kernel) rfl rfl (Nat.le_of_ble_eq_true rfl) dX2_init_21 (fun H locs hP hD hS => ?_)
  have hP : va_P g.1 vwCl ([(a, .inr (2, [.int (-1), .int (-1), .int (-1), .int (-1)]))] ++ dWL g (fun _ => 0) dI []) H := hP
  have hD : va_D (dAc a s.heap.size) ([(a, .inr (2, [.int (-1), .int (-1), .int (-1), .int (-1)]))] ++ dWL g (fun _ => 0) dI []) := hD
  refine d_tc (ad := (fun j => if j = c then a else (fun _ => 0) j)) (ids := ([c] ++ [])) S hr hlk ?_ (fun i h1 h2 => ?_) (if_pos rfl) (of_decide_eq_true (ck_X2_0 hc)) hP hD hS (Nat.le_of_ble_eq_true rfl) (Nat.le_of_ble_eq_true rfl) dX2_init_24
  · show (_ :: _) = (_ :: _)
    refine List.cons_eq_cons.mpr ⟨?_, ?_⟩
    · refine Prod.ext (by simp) ?_
      show _ = dct (dga g _) dI (c)
      rw [dck3 hc]
      simp [dmix, hc, dI_at, dI1]
    · exact dWL_no (xs := [c]) (ck_X2_1 hc) (fun j hj => by rw [if_neg (by simpa using hj)])
  · have := List.all_eq_true.mp (show ((List.range' (c) 1).all fun i => (([c] ++ [])).contains i) = true from (ck_X2_2 hc)) i (List.mem_range'_1.mpr ⟨h1, h2⟩)
    simpa using this
set_option maxRecDepth 20000 in
theorem ggX5_init_X9_init : GoodIn wsX5_init wsX9_init := goodIn_r _ [14, 15, 2, 3, 9, 16, 17, 18, 19] (by decide +kernel) (by decide +kernel)
set_option maxRecDepth 20000 in
theorem gX5_init_X9_init_n11 : GoodIn wsX5_init (wsX9_init) := ggX5_init_X9_init
theorem dX5_init_0 : decode cX5_init 0 = .ok (.aload_n 0, 1) := by decide +kernel
theorem dX5_init_1 : decode cX5_init 1 = .ok (.invokespecial 3, 3) := by decide +kernel
theorem dX5_init_4 : decode cX5_init 4 = .ok (.aload_n 0, 1) := by decide +kernel
theorem dX5_init_5 : decode cX5_init 5 = .ok (.new 9, 3) := by decide +kernel
theorem dX5_init_8 : decode cX5_init 8 = .ok (.dup, 1) := by decide +kernel
theorem dX5_init_9 : decode cX5_init 9 = .ok (.invokespecial 11, 3) := by decide +kernel
theorem dX5_init_12 : decode cX5_init 12 = .ok (.putfield 12, 3) := by decide +kernel
theorem dX5_init_15 : decode cX5_init 15 = .ok (.aload_n 0, 1) := by decide +kernel
theorem dX5_init_16 : decode cX5_init 16 = .ok (.new 9, 3) := by decide +kernel
theorem dX5_init_19 : decode cX5_init 19 = .ok (.dup, 1) := by decide +kernel
theorem dX5_init_20 : decode cX5_init 20 = .ok (.invokespecial 11, 3) := by decide +kernel
theorem dX5_init_23 : decode cX5_init 23 = .ok (.putfield 18, 3) := by decide +kernel
theorem dX5_init_26 : decode cX5_init 26 = .ok (.aload_n 0, 1) := by decide +kernel
theorem dX5_init_27 : decode cX5_init 27 = .ok (.bipush 10, 2) := by decide +kernel
theorem dX5_init_29 : decode cX5_init 29 = .ok (.newarray .int, 2) := by decide +kernel
theorem dX5_init_31 : decode cX5_init 31 = .ok (.putfield 21, 3) := by decide +kernel
theorem dX5_init_34 : decode cX5_init 34 = .ok (.aload_n 0, 1) := by decide +kernel
theorem dX5_init_35 : decode cX5_init 35 = .ok (.iconst 1, 1) := by decide +kernel
theorem dX5_init_36 : decode cX5_init 36 = .ok (.putfield 25, 3) := by decide +kernel
theorem dX5_init_39 : decode cX5_init 39 = .ok (.aload_n 0, 1) := by decide +kernel
theorem dX5_init_40 : decode cX5_init 40 = .ok (.bipush 60, 2) := by decide +kernel
theorem dX5_init_42 : decode cX5_init 42 = .ok (.putfield 29, 3) := by decide +kernel
theorem dX5_init_45 : decode cX5_init 45 = .ok (.return_, 1) := by decide +kernel
theorem ckX5 : ((List.range 444).all fun c => if dK c = 6 then (dApB [] (c + 1) 3) && (dApB ([] ++ List.range' (c + 1) 3) (c + 4) 3) && (decide (dK (c + 7) = 20 ∨ dK (c + 7) = 21 ∨ dK (c + 7) = 22) && decide (c + 7 ≠ 435 ∧ c + 7 ≠ 1 ∧ c + 7 ≠ 2 ∧ c + 7 ≠ 445 ∧ c + 7 ≠ 4 ∧ c + 7 ≠ 447 ∧ c + 7 ≠ 444)) && (dApB (([] ++ List.range' (c + 1) 3) ++ List.range' (c + 4) 3) (c + 7) 1) && (decide (([c] ++ ((([] ++ List.range' (c + 1) 3) ++ List.range' (c + 4) 3) ++ List.range' (c + 7) 1))).Nodup) && (dNo ((([] ++ List.range' (c + 1) 3) ++ List.range' (c + 4) 3) ++ List.range' (c + 7) 1) [c]) && ((List.range' (c) 8).all fun i => (([c] ++ ((([] ++ List.range' (c + 1) 3) ++ List.range' (c + 4) 3) ++ List.range' (c + 7) 1))).contains i) else true) = true := by decide +kernel
theorem ckX5_at {c : Nat} (hc : dK c = 6) : ((dApB [] (c + 1) 3) && (dApB ([] ++ List.range' (c + 1) 3) (c + 4) 3) && (decide (dK (c + 7) = 20 ∨ dK (c + 7) = 21 ∨ dK (c + 7) = 22) && decide (c + 7 ≠ 435 ∧ c + 7 ≠ 1 ∧ c + 7 ≠ 2 ∧ c + 7 ≠ 445 ∧ c + 7 ≠ 4 ∧ c + 7 ≠ 447 ∧ c + 7 ≠ 444)) && (dApB (([] ++ List.range' (c + 1) 3) ++ List.range' (c + 4) 3) (c + 7) 1) && (decide (([c] ++ ((([] ++ List.range' (c + 1) 3) ++ List.range' (c + 4) 3) ++ List.range' (c + 7) 1))).Nodup) && (dNo ((([] ++ List.range' (c + 1) 3) ++ List.range' (c + 4) 3) ++ List.range' (c + 7) 1) [c]) && ((List.range' (c) 8).all fun i => (([c] ++ ((([] ++ List.range' (c + 1) 3) ++ List.range' (c + 4) 3) ++ List.range' (c + 7) 1))).contains i)) = true := by have := List.all_eq_true.mp ckX5 c (List.mem_range.mpr (dK_lt hc (by decide))); simpa only [hc, if_true] using this
theorem ck_X5_0 {c : Nat} (hc : dK c = 6) : (dApB [] (c + 1) 3) = true := by have h := ckX5_at hc; exact (d_and1 (d_and1 (d_and1 (d_and1 (d_and1 (d_and1 h))))))
theorem ck_X5_1 {c : Nat} (hc : dK c = 6) : (dApB ([] ++ List.range' (c + 1) 3) (c + 4) 3) = true := by have h := ckX5_at hc; exact (d_and2 (d_and1 (d_and1 (d_and1 (d_and1 (d_and1 h))))))
theorem ck_X5_2 {c : Nat} (hc : dK c = 6) : (decide (dK (c + 7) = 20 ∨ dK (c + 7) = 21 ∨ dK (c + 7) = 22) && decide (c + 7 ≠ 435 ∧ c + 7 ≠ 1 ∧ c + 7 ≠ 2 ∧ c + 7 ≠ 445 ∧ c + 7 ≠ 4 ∧ c + 7 ≠ 447 ∧ c + 7 ≠ 444)) = true := by have h := ckX5_at hc; exact (d_and2 (d_and1 (d_and1 (d_and1 (d_and1 h)))))
theorem ck_X5_3 {c : Nat} (hc : dK c = 6) : (dApB (([] ++ List.range' (c + 1) 3) ++ List.range' (c + 4) 3) (c + 7) 1) = true := by have h := ckX5_at hc; exact (d_and2 (d_and1 (d_and1 (d_and1 h))))
theorem ck_X5_4 {c : Nat} (hc : dK c = 6) : (decide (([c] ++ ((([] ++ List.range' (c + 1) 3) ++ List.range' (c + 4) 3) ++ List.range' (c + 7) 1))).Nodup) = true := by have h := ckX5_at hc; exact (d_and2 (d_and1 (d_and1 h)))
theorem ck_X5_5 {c : Nat} (hc : dK c = 6) : (dNo ((([] ++ List.range' (c + 1) 3) ++ List.range' (c + 4) 3) ++ List.range' (c + 7) 1) [c]) = true := by have h := ckX5_at hc; exact (d_and2 (d_and1 h))
theorem ck_X5_6 {c : Nat} (hc : dK c = 6) : ((List.range' (c) 8).all fun i => (([c] ++ ((([] ++ List.range' (c + 1) 3) ++ List.range' (c + 4) 3) ++ List.range' (c + 7) 1))).contains i) = true := by have h := ckX5_at hc; exact (d_and2 h)
set_option maxHeartbeats 4000000 in
set_option maxRecDepth 100000 in
theorem kiX5 (l : Launch) (g : dG) {c : Nat} (hc : dK c = 6) : dCMet l g yX5_init wsX5_init 2 40 7 54 5 [.null, .null, .null, .int 0, .int 0, .int 0, .int 0] dI (c) 8 := by
  refine dcof (cc := cX5_init) (maxL := 1) (by decide) rfl rfl (by decide) ?_
  intro a p e s mth below meth cd S hr hlk hin hE hba hA H ls hP hD hS hl
  have S : CallFix p mth cd cX5_init 1 s #[Value.ref a] wsX5_init RX5 := S
  have hAb : ∀ q, dAc a s.heap.size q → g.2.2.2 ≤ q := fun q h => by rcases h with rfl | h; exact hba; exact Nat.le_trans hE.2.2.2.2.2.1 h
  obtain ⟨locs, hlocs⟩ : ∃ z : List Loc, z = [] := ⟨_, rfl⟩
  rw [← hlocs] at hS ⊢
  have hP : va_P g.1 vwCl ([(a, .inr (5, [.null, .null, .null, .int 0, .int 0, .int 0, .int 0]))] ++ dWL g (fun _ => 0) dI []) H := hP
  have hD : va_D (dAc a s.heap.size) ([(a, .inr (5, [.null, .null, .null, .int 0, .int 0, .int 0, .int 0]))] ++ dWL g (fun _ => 0) dI []) := hD
  have in5 : ∀ w ∈ wsX50, w ∈ wsX5_init := by decide +kernel
  have in9 : ∀ w ∈ wsX90, w ∈ wsX5_init := by decide +kernel
  refine lv_aload_n S.1 S.2.1 dX5_init_0 rfl (lv_at hl 0 rfl) ?_
  refine W.objInit S.1 S.2.1 S.2.2.2.1 (S.2.2.2.2 (.methodLink RX5 3 objectInit) (List.mem_of_getElem? (i := 1) rfl)) (S.2.2.2.2 (.instanceMethod objectInit) (List.mem_of_getElem? (i := 2) rfl)) (S.2.2.2.2 (.code objectInit ⟨#[0xb1]⟩ 1 none) (List.mem_of_getElem? (i := 3) rfl)) rfl (hl.1.trans S.2.2.1.symm) rfl dX5_init_1 (Nat.le_of_ble_eq_true rfl) (Nat.le_of_ble_eq_true rfl) ?_
  refine W.eq (g2 := F0 mth 4 ls []) rfl ?_
  refine lv_aload_n S.1 S.2.1 dX5_init_4 rfl (lv_at hl 0 rfl) ?_
  refine d_newo (C := RX9) (T := TX9) (N := 2) (ci := 9) (fs := [.null, .null]) (k1 := 2) (k2 := 20) (c + 1) 3 tyX9 tyX9_ok S in9 (S.2.2.2.2 (.classLink RX5 9 RX9) (List.mem_of_getElem? (i := 4) rfl)) (S.2.2.2.2 (.instantiable RX9 2) (List.mem_of_getElem? (i := 5) rfl)) (S.2.2.2.2 (.initialized RX9) (List.mem_of_getElem? (i := 6) rfl)) hE hAb hP hD hS hA rfl hfsX9 (fun q9 H9 locs9 c9 s9 hp hf => va_runIN (As := []) (rest := [.ref q9, .ref a]) S (kiX9 l g (c := c + 1) (dkr6_1 hc) q9 _) ⟨va_cnB 0 S.2.2.2.2 gX5_init_X9_init_n11 rfl rfl rfl (dnqi_RX5_11 hE) (S.2.2.2.2 (.initialized RX9) (List.mem_of_getElem? (i := 6) rfl)) yniX9 ⟨(Nat.le_of_ble_eq_true rfl), (Nat.le_of_ble_eq_true rfl)⟩, rfl, S.2.2.2.2 (.instanceMethod yX9_init) (List.mem_of_getElem? (i := 13) rfl)⟩ hp rfl rfl hl.1 rfl (lv_room (Nat.le_of_ble_eq_true rfl)) dX5_init_9 hf) (Nat.le_of_ble_eq_true rfl) (Nat.le_of_ble_eq_true rfl) dX5_init_5 dX5_init_8 (fun a1 H locs hP hD hS => ?_)
  obtain ⟨hP, hD⟩ := d_mix (dAp_of (ck_X5_0 hc)) hP hD
  refine va_putF (D := g.1) (ci := 5) (v := .ref (a1 (c + 1))) (ty := .object "DrillField$Spots") (C := RX5) (T := TX5) (N := 7) S.1 S.2.1 S.2.2.2.2 in5 tyX5 tyX5_ok nmX5 S.2.2.2.1 hE.1 hP hD hS 0 rfl rfl 0 (by decide) (S.2.2.2.2 (.fieldLink RX5 12 "DrillField$Part" "starts" "LDrillField$Spots;") (List.mem_of_getElem? (i := 7) rfl)) (fun _ h => h) rfl hin rfl (by decide +kernel) rfl rfl (Nat.le_of_ble_eq_true rfl) dX5_init_12 (fun H locs hP hD hS => ?_)
  have hP : va_P g.1 vwCl ([(a, .inr (5, [.ref (a1 (c + 1)), .null, .null, .int 0, .int 0, .int 0, .int 0]))] ++ dWL g (dmix (fun _ => 0) a1 (c + 1) 3) dI ([] ++ List.range' (c + 1) 3)) H := hP
  have hD : va_D (dAc a s.heap.size) ([(a, .inr (5, [.ref (a1 (c + 1)), .null, .null, .int 0, .int 0, .int 0, .int 0]))] ++ dWL g (dmix (fun _ => 0) a1 (c + 1) 3) dI ([] ++ List.range' (c + 1) 3)) := hD
  refine lv_aload_n S.1 S.2.1 dX5_init_15 rfl (lv_at hl 0 rfl) ?_
  refine d_newo (C := RX9) (T := TX9) (N := 2) (ci := 9) (fs := [.null, .null]) (k1 := 2) (k2 := 20) (c + 4) 3 tyX9 tyX9_ok S in9 (S.2.2.2.2 (.classLink RX5 9 RX9) (List.mem_of_getElem? (i := 4) rfl)) (S.2.2.2.2 (.instantiable RX9 2) (List.mem_of_getElem? (i := 5) rfl)) (S.2.2.2.2 (.initialized RX9) (List.mem_of_getElem? (i := 6) rfl)) hE hAb hP hD hS hA rfl hfsX9 (fun q9 H9 locs9 c9 s9 hp hf => va_runIN (As := []) (rest := [.ref q9, .ref a]) S (kiX9 l g (c := c + 4) (dkr6_4 hc) q9 _) ⟨va_cnB 0 S.2.2.2.2 gX5_init_X9_init_n11 rfl rfl rfl (dnqi_RX5_11 hE) (S.2.2.2.2 (.initialized RX9) (List.mem_of_getElem? (i := 6) rfl)) yniX9 ⟨(Nat.le_of_ble_eq_true rfl), (Nat.le_of_ble_eq_true rfl)⟩, rfl, S.2.2.2.2 (.instanceMethod yX9_init) (List.mem_of_getElem? (i := 13) rfl)⟩ hp rfl rfl hl.1 rfl (lv_room (Nat.le_of_ble_eq_true rfl)) dX5_init_20 hf) (Nat.le_of_ble_eq_true rfl) (Nat.le_of_ble_eq_true rfl) dX5_init_16 dX5_init_19 (fun a2 H locs hP hD hS => ?_)
  obtain ⟨hP, hD⟩ := d_mix (dAp_of (ck_X5_1 hc)) hP hD
  refine va_putF (D := g.1) (ci := 5) (v := .ref (a2 (c + 4))) (ty := .object "DrillField$Spots") (C := RX5) (T := TX5) (N := 7) S.1 S.2.1 S.2.2.2.2 in5 tyX5 tyX5_ok nmX5 S.2.2.2.1 hE.1 hP hD hS 0 rfl rfl 1 (by decide) (S.2.2.2.2 (.fieldLink RX5 18 "DrillField$Part" "ends" "LDrillField$Spots;") (List.mem_of_getElem? (i := 8) rfl)) (fun _ h => h) rfl hin rfl (by decide +kernel) rfl rfl (Nat.le_of_ble_eq_true rfl) dX5_init_23 (fun H locs hP hD hS => ?_)
  have hP : va_P g.1 vwCl ([(a, .inr (5, [.ref (a1 (c + 1)), .ref (a2 (c + 4)), .null, .int 0, .int 0, .int 0, .int 0]))] ++ dWL g (dmix (dmix (fun _ => 0) a1 (c + 1) 3) a2 (c + 4) 3) dI (([] ++ List.range' (c + 1) 3) ++ List.range' (c + 4) 3)) H := hP
  have hD : va_D (dAc a s.heap.size) ([(a, .inr (5, [.ref (a1 (c + 1)), .ref (a2 (c + 4)), .null, .int 0, .int 0, .int 0, .int 0]))] ++ dWL g (dmix (dmix (fun _ => 0) a1 (c + 1) 3) a2 (c + 4) 3) dI (([] ++ List.range' (c + 1) 3) ++ List.range' (c + 4) 3)) := hD
  refine lv_aload_n S.1 S.2.1 dX5_init_26 rfl (lv_at hl 0 rfl) ?_
  refine lv_bipush (v := 10) S.1 S.2.1 dX5_init_27 (by decide) ?_
  refine d_newI (mm := dI) (N' := 10) (c + 7) (dkr6_7 hc) (dlP7 hc) (dI_z (ck_X5_2 hc)) S (S.2.2.2.2 (.arrayClass .int) (List.mem_of_getElem? (i := 9) rfl)) hE.1 hP hD hS hA (by decide) (by decide) (Nat.le_of_ble_eq_true rfl) (Nat.le_of_ble_eq_true rfl) (Nat.le_of_ble_eq_true rfl) dX5_init_29 (fun a3 H hP hD hS => ?_)
  obtain ⟨hP, hD⟩ := d_mix (dAp_of (ck_X5_3 hc)) hP hD
  refine va_putF (D := g.1) (ci := 5) (v := .ref (a3 (c + 7))) (ty := .array .int) (C := RX5) (T := TX5) (N := 7) S.1 S.2.1 S.2.2.2.2 in5 tyX5 tyX5_ok nmX5 S.2.2.2.1 hE.1 hP hD hS 0 rfl rfl 2 (by decide) (S.2.2.2.2 (.fieldLink RX5 21 "DrillField$Part" "places" "[I") (List.mem_of_getElem? (i := 10) rfl)) (fun _ h => h) rfl hin rfl (by decide +kernel) rfl rfl (Nat.le_of_ble_eq_true rfl) dX5_init_31 (fun H locs hP hD hS => ?_)
  have hP : va_P g.1 vwCl ([(a, .inr (5, [.ref (a1 (c + 1)), .ref (a2 (c + 4)), .ref (a3 (c + 7)), .int 0, .int 0, .int 0, .int 0]))] ++ dWL g (dmix (dmix (dmix (fun _ => 0) a1 (c + 1) 3) a2 (c + 4) 3) a3 (c + 7) 1) dI ((([] ++ List.range' (c + 1) 3) ++ List.range' (c + 4) 3) ++ List.range' (c + 7) 1)) H := hP
  have hD : va_D (dAc a s.heap.size) ([(a, .inr (5, [.ref (a1 (c + 1)), .ref (a2 (c + 4)), .ref (a3 (c + 7)), .int 0, .int 0, .int 0, .int 0]))] ++ dWL g (dmix (dmix (dmix (fun _ => 0) a1 (c + 1) 3) a2 (c + 4) 3) a3 (c + 7) 1) dI ((([] ++ List.range' (c + 1) 3) ++ List.range' (c + 4) 3) ++ List.range' (c + 7) 1)) := hD
  refine lv_aload_n S.1 S.2.1 dX5_init_34 rfl (lv_at hl 0 rfl) ?_
  refine lv_iconst (v := 1) S.1 S.2.1 dX5_init_35 (by decide) ?_
  refine va_put (D := g.1) (ci := 5) (v := .int 1) (ty := .int) (C := RX5) (T := TX5) (N := 7) S.1 S.2.1 S.2.2.2.2 in5 tyX5 tyX5_ok nmX5 S.2.2.2.1 hE.1 hP hD hS 0 rfl rfl 4 (by decide) (S.2.2.2.2 (.fieldLink RX5 25 "DrillField$Part" "counts" "I") (List.mem_of_getElem? (i := 11) rfl)) (fun _ h => h) rfl (by decide +kernel) rfl rfl (Nat.le_of_ble_eq_true rfl) dX5_init_36 (fun H locs hP hD hS => ?_)
  have hP : va_P g.1 vwCl ([(a, .inr (5, [.ref (a1 (c + 1)), .ref (a2 (c + 4)), .ref (a3 (c + 7)), .int 0, .int 1, .int 0, .int 0]))] ++ dWL g (dmix (dmix (dmix (fun _ => 0) a1 (c + 1) 3) a2 (c + 4) 3) a3 (c + 7) 1) dI ((([] ++ List.range' (c + 1) 3) ++ List.range' (c + 4) 3) ++ List.range' (c + 7) 1)) H := hP
  have hD : va_D (dAc a s.heap.size) ([(a, .inr (5, [.ref (a1 (c + 1)), .ref (a2 (c + 4)), .ref (a3 (c + 7)), .int 0, .int 1, .int 0, .int 0]))] ++ dWL g (dmix (dmix (dmix (fun _ => 0) a1 (c + 1) 3) a2 (c + 4) 3) a3 (c + 7) 1) dI ((([] ++ List.range' (c + 1) 3) ++ List.range' (c + 4) 3) ++ List.range' (c + 7) 1)) := hD
  refine lv_aload_n S.1 S.2.1 dX5_init_39 rfl (lv_at hl 0 rfl) ?_
  refine lv_bipush (v := 60) S.1 S.2.1 dX5_init_40 (by decide) ?_
  refine va_put (D := g.1) (ci := 5) (v := .int 60) (ty := .int) (C := RX5) (T := TX5) (N := 7) S.1 S.2.1 S.2.2.2.2 in5 tyX5 tyX5_ok nmX5 S.2.2.2.1 hE.1 hP hD hS 0 rfl rfl 5 (by decide) (S.2.2.2.2 (.fieldLink RX5 29 "DrillField$Part" "tempo" "I") (List.mem_of_getElem? (i := 12) rfl)) (fun _ h => h) rfl (by decide +kernel) rfl rfl (Nat.le_of_ble_eq_true rfl) dX5_init_42 (fun H locs hP hD hS => ?_)
  have hP : va_P g.1 vwCl ([(a, .inr (5, [.ref (a1 (c + 1)), .ref (a2 (c + 4)), .ref (a3 (c + 7)), .int 0, .int 1, .int 60, .int 0]))] ++ dWL g (dmix (dmix (dmix (fun _ => 0) a1 (c + 1) 3) a2 (c + 4) 3) a3 (c + 7) 1) dI ((([] ++ List.range' (c + 1) 3) ++ List.range' (c + 4) 3) ++ List.range' (c + 7) 1)) H := hP
  have hD : va_D (dAc a s.heap.size) ([(a, .inr (5, [.ref (a1 (c + 1)), .ref (a2 (c + 4)), .ref (a3 (c + 7)), .int 0, .int 1, .int 60, .int 0]))] ++ dWL g (dmix (dmix (dmix (fun _ => 0) a1 (c + 1) 3) a2 (c + 4) 3) a3 (c + 7) 1) dI ((([] ++ List.range' (c + 1) 3) ++ List.range' (c + 4) 3) ++ List.range' (c + 7) 1)) := hD
  refine d_tc (ad := (fun j => if j = c then a else (dmix (dmix (dmix (fun _ => 0) a1 (c + 1) 3) a2 (c + 4) 3) a3 (c + 7) 1) j)) (ids := ([c] ++ ((([] ++ List.range' (c + 1) 3) ++ List.range' (c + 4) 3) ++ List.range' (c + 7) 1))) S hr hlk ?_ (fun i h1 h2 => ?_) (if_pos rfl) (of_decide_eq_true (ck_X5_4 hc)) hP hD hS (Nat.le_of_ble_eq_true rfl) (Nat.le_of_ble_eq_true rfl) dX5_init_45
  · show (_ :: _) = (_ :: _)
    refine List.cons_eq_cons.mpr ⟨?_, ?_⟩
    · refine Prod.ext (by simp) ?_
      show _ = dct (dga g _) dI (c)
      rw [dck6 hc]
      simp [dmix, hc, dI_at, dI1]
    · exact dWL_no (xs := [c]) (ck_X5_5 hc) (fun j hj => by rw [if_neg (by simpa using hj)])
  · have := List.all_eq_true.mp (show ((List.range' (c) 8).all fun i => (([c] ++ ((([] ++ List.range' (c + 1) 3) ++ List.range' (c + 4) 3) ++ List.range' (c + 7) 1))).contains i) = true from (ck_X5_6 hc)) i (List.mem_range'_1.mpr ⟨h1, h2⟩)
    simpa using this
set_option maxRecDepth 20000 in
theorem ggX7_init_X9_init : GoodIn wsX7_init wsX9_init := goodIn_r _ [10, 11, 2, 3, 12, 13, 14, 18, 19] (by decide +kernel) (by decide +kernel)
set_option maxRecDepth 20000 in
theorem gX7_init_X9_init_n17 : GoodIn wsX7_init (wsX9_init) := ggX7_init_X9_init
theorem dX7_init_0 : decode cX7_init 0 = .ok (.aload_n 0, 1) := by decide +kernel
theorem dX7_init_1 : decode cX7_init 1 = .ok (.invokespecial 3, 3) := by decide +kernel
theorem dX7_init_4 : decode cX7_init 4 = .ok (.aload_n 0, 1) := by decide +kernel
theorem dX7_init_5 : decode cX7_init 5 = .ok (.bipush 12, 2) := by decide +kernel
theorem dX7_init_7 : decode cX7_init 7 = .ok (.anewarray 9, 3) := by decide +kernel
theorem dX7_init_10 : decode cX7_init 10 = .ok (.putfield 11, 3) := by decide +kernel
theorem dX7_init_13 : decode cX7_init 13 = .ok (.aload_n 0, 1) := by decide +kernel
theorem dX7_init_14 : decode cX7_init 14 = .ok (.new 9, 3) := by decide +kernel
theorem dX7_init_17 : decode cX7_init 17 = .ok (.dup, 1) := by decide +kernel
theorem dX7_init_18 : decode cX7_init 18 = .ok (.invokespecial 17, 3) := by decide +kernel
theorem dX7_init_21 : decode cX7_init 21 = .ok (.putfield 18, 3) := by decide +kernel
theorem dX7_init_24 : decode cX7_init 24 = .ok (.iconst 0, 1) := by decide +kernel
theorem dX7_init_25 : decode cX7_init 25 = .ok (.istore_n 1, 1) := by decide +kernel
theorem dX7_init_26 : decode cX7_init 26 = .ok (.iload_n 1, 1) := by decide +kernel
theorem dX7_init_27 : decode cX7_init 27 = .ok (.bipush 12, 2) := by decide +kernel
theorem dX7_init_29 : decode cX7_init 29 = .ok (.if_icmp .ge 22, 3) := by decide +kernel
theorem dX7_init_32 : decode cX7_init 32 = .ok (.aload_n 0, 1) := by decide +kernel
theorem dX7_init_33 : decode cX7_init 33 = .ok (.getfield 11, 3) := by decide +kernel
theorem dX7_init_36 : decode cX7_init 36 = .ok (.iload_n 1, 1) := by decide +kernel
theorem dX7_init_37 : decode cX7_init 37 = .ok (.new 9, 3) := by decide +kernel
theorem dX7_init_40 : decode cX7_init 40 = .ok (.dup, 1) := by decide +kernel
theorem dX7_init_41 : decode cX7_init 41 = .ok (.invokespecial 17, 3) := by decide +kernel
theorem dX7_init_44 : decode cX7_init 44 = .ok (.aastore, 1) := by decide +kernel
theorem dX7_init_45 : decode cX7_init 45 = .ok (.iinc 1 1, 3) := by decide +kernel
theorem dX7_init_48 : decode cX7_init 48 = .ok (.goto (-22), 3) := by decide +kernel
theorem dX7_init_51 : decode cX7_init 51 = .ok (.return_, 1) := by decide +kernel
theorem lkX7_init : ∀ i, i < 12 → dK (8 + 3 * i) = 10 ∧ dApB (([] ++ List.range' (44) 3) ++ List.range' 8 (3 * i)) (8 + 3 * i) 3 = true := by decide +kernel
set_option maxHeartbeats 4000000 in
set_option maxRecDepth 100000 in
theorem kiX7 (l : Launch) (g : dG) : dCMet l g yX7_init wsX7_init 2 40 40 298 7 [.null, .null, .int 0] dI (6) 41 := by
  refine dcof (cc := cX7_init) (maxL := 2) (by decide) rfl rfl (by decide) ?_
  intro a p e s mth below meth cd S hr hlk hin hE hba hA H ls hP hD hS hl
  have S : CallFix p mth cd cX7_init 2 s #[Value.ref a] wsX7_init RX7 := S
  have hAb : ∀ q, dAc a s.heap.size q → g.2.2.2 ≤ q := fun q h => by rcases h with rfl | h; exact hba; exact Nat.le_trans hE.2.2.2.2.2.1 h
  obtain ⟨locs, hlocs⟩ : ∃ z : List Loc, z = [] := ⟨_, rfl⟩
  rw [← hlocs] at hS ⊢
  have hP : va_P g.1 vwCl ([(a, .inr (7, [.null, .null, .int 0]))] ++ dWL g (fun _ => 0) dI []) H := hP
  have hD : va_D (dAc a s.heap.size) ([(a, .inr (7, [.null, .null, .int 0]))] ++ dWL g (fun _ => 0) dI []) := hD
  have in7 : ∀ w ∈ wsX70, w ∈ wsX7_init := by decide +kernel
  have in9 : ∀ w ∈ wsX90, w ∈ wsX7_init := by decide +kernel
  refine lv_aload_n S.1 S.2.1 dX7_init_0 rfl (lv_at hl 0 rfl) ?_
  refine W.objInit S.1 S.2.1 S.2.2.2.1 (S.2.2.2.2 (.methodLink RX7 3 objectInit) (List.mem_of_getElem? (i := 1) rfl)) (S.2.2.2.2 (.instanceMethod objectInit) (List.mem_of_getElem? (i := 2) rfl)) (S.2.2.2.2 (.code objectInit ⟨#[0xb1]⟩ 1 none) (List.mem_of_getElem? (i := 3) rfl)) rfl (hl.1.trans S.2.2.1.symm) rfl dX7_init_1 (Nat.le_of_ble_eq_true rfl) (Nat.le_of_ble_eq_true rfl) ?_
  refine W.eq (g2 := F0 mth 4 ls []) rfl ?_
  refine lv_aload_n S.1 S.2.1 dX7_init_4 rfl (lv_at hl 0 rfl) ?_
  refine lv_bipush (v := 12) S.1 S.2.1 dX7_init_5 (by decide) ?_
  refine d_newQ (C := "DrillField$Spots") (N' := 12) (cB := dcy g 4) 4 rfl S (S.2.2.2.2 (.classLink RX7 9 RX9) (List.mem_of_getElem? (i := 4) rfl)) hE.2.2.2.2.2.2.2.2.2.2.1 hE.1 hP hD hS hA (by decide) (by decide) (Nat.le_of_ble_eq_true rfl) (Nat.le_of_ble_eq_true rfl) (Nat.le_of_ble_eq_true rfl) dX7_init_7 (fun q H hP hD hS => ?_)
  have hP : va_P g.1 vwCl ([(a, .inr (7, [.null, .null, .int 0])), (q, .inl (dcy g 4, 12, .inr (.inr (.inr (.inr (fun _ => none))))))] ++ dWL g (fun _ => 0) dI []) H := hP
  have hD : va_D (dAc a s.heap.size) ([(a, .inr (7, [.null, .null, .int 0])), (q, .inl (dcy g 4, 12, .inr (.inr (.inr (.inr (fun _ => none))))))] ++ dWL g (fun _ => 0) dI []) := hD
  refine va_putF (D := g.1) (ci := 7) (v := .ref q) (ty := .array (.object "DrillField$Spots")) (C := RX7) (T := TX7) (N := 3) S.1 S.2.1 S.2.2.2.2 in7 tyX7 tyX7_ok nmX7 S.2.2.2.1 hE.1 hP hD hS 0 rfl rfl 0 (by decide) (S.2.2.2.2 (.fieldLink RX7 11 "DrillField$Sets" "all" "[LDrillField$Spots;") (List.mem_of_getElem? (i := 5) rfl)) (fun _ h => h) rfl hin rfl (by decide +kernel) rfl rfl (Nat.le_of_ble_eq_true rfl) dX7_init_10 (fun H locs hP hD hS => ?_)
  have hP : va_P g.1 vwCl ([(a, .inr (7, [.ref q, .null, .int 0])), (q, .inl (dcy g 4, 12, .inr (.inr (.inr (.inr (fun _ => none))))))] ++ dWL g (fun _ => 0) dI []) H := hP
  have hD : va_D (dAc a s.heap.size) ([(a, .inr (7, [.ref q, .null, .int 0])), (q, .inl (dcy g 4, 12, .inr (.inr (.inr (.inr (fun _ => none))))))] ++ dWL g (fun _ => 0) dI []) := hD
  refine lv_aload_n S.1 S.2.1 dX7_init_13 rfl (lv_at hl 0 rfl) ?_
  refine d_newo (C := RX9) (T := TX9) (N := 2) (ci := 9) (fs := [.null, .null]) (k1 := 2) (k2 := 20) (44) 3 tyX9 tyX9_ok S in9 (S.2.2.2.2 (.classLink RX7 9 RX9) (List.mem_of_getElem? (i := 4) rfl)) (S.2.2.2.2 (.instantiable RX9 2) (List.mem_of_getElem? (i := 6) rfl)) (S.2.2.2.2 (.initialized RX9) (List.mem_of_getElem? (i := 7) rfl)) hE hAb hP hD hS hA rfl hfsX9 (fun q9 H9 locs9 c9 s9 hp hf => va_runIN (As := []) (rest := [.ref q9, .ref a]) S (kiX9 l g (c := 44) (by decide +kernel) q9 _) ⟨va_cnB 0 S.2.2.2.2 gX7_init_X9_init_n17 rfl rfl rfl (dnqi_RX7_17 hE) (S.2.2.2.2 (.initialized RX9) (List.mem_of_getElem? (i := 7) rfl)) yniX9 ⟨(Nat.le_of_ble_eq_true rfl), (Nat.le_of_ble_eq_true rfl)⟩, rfl, S.2.2.2.2 (.instanceMethod yX9_init) (List.mem_of_getElem? (i := 9) rfl)⟩ hp rfl rfl hl.1 rfl (lv_room (Nat.le_of_ble_eq_true rfl)) dX7_init_18 hf) (Nat.le_of_ble_eq_true rfl) (Nat.le_of_ble_eq_true rfl) dX7_init_14 dX7_init_17 (fun a1 H locs hP hD hS => ?_)
  obtain ⟨hP, hD⟩ := d_mix (dAp_of (by decide +kernel)) hP hD
  refine va_putF (D := g.1) (ci := 7) (v := .ref (a1 (44))) (ty := .object "DrillField$Spots") (C := RX7) (T := TX7) (N := 3) S.1 S.2.1 S.2.2.2.2 in7 tyX7 tyX7_ok nmX7 S.2.2.2.1 hE.1 hP hD hS 0 rfl rfl 1 (by decide) (S.2.2.2.2 (.fieldLink RX7 18 "DrillField$Sets" "draft" "LDrillField$Spots;") (List.mem_of_getElem? (i := 8) rfl)) (fun _ h => h) rfl hin rfl (by decide +kernel) rfl rfl (Nat.le_of_ble_eq_true rfl) dX7_init_21 (fun H locs hP hD hS => ?_)
  have hP : va_P g.1 vwCl ([(a, .inr (7, [.ref q, .ref (a1 (44)), .int 0])), (q, .inl (dcy g 4, 12, .inr (.inr (.inr (.inr (fun _ => none))))))] ++ dWL g (dmix (fun _ => 0) a1 (44) 3) dI ([] ++ List.range' (44) 3)) H := hP
  have hD : va_D (dAc a s.heap.size) ([(a, .inr (7, [.ref q, .ref (a1 (44)), .int 0])), (q, .inl (dcy g 4, 12, .inr (.inr (.inr (.inr (fun _ => none))))))] ++ dWL g (dmix (fun _ => 0) a1 (44) 3) dI ([] ++ List.range' (44) 3)) := hD
  refine lv_iconst (v := 0) S.1 S.2.1 dX7_init_24 (by decide) ?_
  refine lv_istore_n (lv' := [(1, .int 0), (0, .ref a)]) S.1 S.2.1 dX7_init_25 rfl hl (by decide) rfl (fun ls hl => ?_)
  have loop : ∀ (k i : Nat), i + k = 12 → ∀ (ad : Nat → Nat) (H : Heap) (locs : List Loc) (ls : Array Slot), (∀ j, ¬ (8 ≤ j ∧ j < 44) → ad j = (dmix (fun _ => 0) a1 (44) 3) j) → va_P g.1 vwCl ([(a, .inr (7, [.ref q, .ref (a1 (44)), .int 0])), (q, .inl (dcy g 4, 12, .inr (.inr (.inr (.inr (fun j => if j < i then some (ad (8 + 3 * j)) else none))))))] ++ dWL g ad dI (([] ++ List.range' (44) 3) ++ List.range' 8 (3 * i))) H → va_D (dAc a s.heap.size) ([(a, .inr (7, [.ref q, .ref (a1 (44)), .int 0])), (q, .inl (dcy g 4, 12, .inr (.inr (.inr (.inr (fun j => if j < i then some (ad (8 + 3 * j)) else none))))))] ++ dWL g ad dI (([] ++ List.range' (44) 3) ++ List.range' 8 (3 * i))) → va_S (dAc a s.heap.size) s.heap H locs → lv_has ls 2 [(1, .int (nI i)), (0, .ref a)] → W p l e (headSpec wsX7_init (dCm 40 298 2 40)).room s mth #[Value.ref a] below meth cd H locs (4 + 3 * i) (34 + 22 * i) (MQ below (dCQ g dI (6) 41 a s.heap.size) #[Value.ref a] s 40 298 (dAc a s.heap.size)) (F0 mth 26 ls []) := by
    intro k
    induction k with
      | zero =>
        intro i hi ad H locs ls hag hP hD hS hl
        obtain rfl : i = 12 := by omega
        have hl : lv_has ls 2 [(1, .int 12), (0, .ref a)] := hl
        refine lv_iload_n S.1 S.2.1 dX7_init_26 rfl (lv_at hl 0 rfl) ?_
        refine lv_bipush (v := 12) S.1 S.2.1 dX7_init_27 (by decide) ?_
        refine lv_icmp_ge (tgt := 51) S.1 S.2.1 dX7_init_29 (by decide) (fun cq => ?_) (fun cq => absurd (by decide) cq)
        refine d_tc (ws := ([(a, .inr (7, [.ref q, .ref (a1 (44)), .int 0])), (q, .inl (dcy g 4, 12, .inr (.inr (.inr (.inr (fun j => if j < 12 then some (ad (8 + 3 * j)) else none))))))] ++ dWL g ad dI (([] ++ List.range' (44) 3) ++ List.range' 8 36))) (ad := (fun j => if j = 6 then a else if j = 7 then q else ad j)) (ids := ([6, 7] ++ (([] ++ List.range' (44) 3) ++ List.range' 8 36))) S hr hlk ?_ (fun i h1 h2 => ?_) (if_pos rfl) (by decide +kernel) hP hD hS (Nat.le_of_ble_eq_true rfl) (Nat.le_of_ble_eq_true rfl) dX7_init_51
        · show (_ :: _ :: _) = (_ :: _ :: _)
          refine List.cons_eq_cons.mpr ⟨?_, List.cons_eq_cons.mpr ⟨?_, ?_⟩⟩
          · refine Prod.ext (by simp) ?_
            show _ = dct (dga g _) dI (6)
            rw [dck8 (show dK 6 = 8 by decide +kernel)]
            simp [dmix, dI_at, dI1, (show dK 6 = 8 by decide +kernel), hag 44 (by omega)]
          · refine Prod.ext rfl ?_
            show _ = dct (dga g _) dI 7
            rw [dck24 (show dK 7 = 24 by decide +kernel), (show dL 7 = 12 by decide +kernel)]
            refine (congrArg (fun f => (.inl (dcy g 4, 12, .inr (.inr (.inr (.inr f)))) : va_E)) (funext fun j => ?_))
            by_cases hj : j < 12
            · rw [if_pos hj, if_pos hj, if_neg (show ¬ 7 + 1 + 3 * j = 6 by omega), if_neg (show ¬ 7 + 1 + 3 * j = 7 by omega)]
            · rw [if_neg hj, if_neg hj]
          · exact dWL_no (xs := [6, 7]) (by decide +kernel) (fun j hj => by simp at hj; rw [if_neg hj.1, if_neg hj.2])
        · have := List.all_eq_true.mp (show ((List.range' 6 41).all fun i => (([6, 7] ++ (([] ++ List.range' (44) 3) ++ List.range' 8 36))).contains i) = true by decide +kernel) i (List.mem_range'_1.mpr ⟨h1, h2⟩)
          simpa using this
      | succ k ih =>
        intro i hi ad H locs ls hag hP hD hS hl
        have hlt : i < 12 := by omega
        refine lv_iload_n S.1 S.2.1 dX7_init_26 rfl (lv_at hl 0 rfl) ?_
        refine lv_bipush (v := 12) S.1 S.2.1 dX7_init_27 (by decide) ?_
        refine lv_icmp_ge (tgt := 51) S.1 S.2.1 dX7_init_29 (by decide) (fun cq => absurd cq (by rw [show (12 : Int32) = nI 12 from rfl]; exact nI_ge hlt (by decide))) (fun cq => ?_)
        refine lv_aload_n S.1 S.2.1 dX7_init_32 rfl (lv_at hl 1 rfl) ?_
        refine va_get (D := g.1) (ci := 7) (v := .ref q) (C := RX7) (T := TX7) (N := 3) S.1 S.2.1 S.2.2.2.2 in7 S.2.2.2.1 hE.1 hP 0 rfl rfl 0 (by decide) (S.2.2.2.2 (.fieldLink RX7 11 "DrillField$Sets" "all" "[LDrillField$Spots;") (List.mem_of_getElem? (i := 5) rfl)) (fun _ h => h) rfl dX7_init_33 ?_
        refine lv_iload_n S.1 S.2.1 dX7_init_36 rfl (lv_at hl 0 rfl) ?_
        refine d_newo (C := RX9) (T := TX9) (N := 2) (ci := 9) (fs := [.null, .null]) (k1 := 2) (k2 := 20) (8 + 3 * i) 3 tyX9 tyX9_ok S in9 (S.2.2.2.2 (.classLink RX7 9 RX9) (List.mem_of_getElem? (i := 4) rfl)) (S.2.2.2.2 (.instantiable RX9 2) (List.mem_of_getElem? (i := 6) rfl)) (S.2.2.2.2 (.initialized RX9) (List.mem_of_getElem? (i := 7) rfl)) hE hAb hP hD hS hA rfl hfsX9 (fun q9 H9 locs9 c9 s9 hp hf => va_runIN (As := []) (rest := [.ref q9, .int (nI i), .ref q]) S (kiX9 l g (c := 8 + 3 * i) (lkX7_init i hlt).1 q9 _) ⟨va_cnB 0 S.2.2.2.2 gX7_init_X9_init_n17 rfl rfl rfl (dnqi_RX7_17 hE) (S.2.2.2.2 (.initialized RX9) (List.mem_of_getElem? (i := 7) rfl)) yniX9 ⟨(Nat.le_of_ble_eq_true rfl), (Nat.le_of_ble_eq_true rfl)⟩, rfl, S.2.2.2.2 (.instanceMethod yX9_init) (List.mem_of_getElem? (i := 9) rfl)⟩ hp rfl rfl hl.1 rfl (lv_room (Nat.le_of_ble_eq_true rfl)) dX7_init_41 hf) (by show _ ≤ 40; omega) (by show _ ≤ 298; omega) dX7_init_37 dX7_init_40 (fun a9 H locs hP hD hS => ?_)
        obtain ⟨hP, hD⟩ := d_mix (dAp_of (lkX7_init i hlt).2) hP hD
        obtain ⟨ad2, had2⟩ : ∃ z, z = dmix ad a9 (8 + 3 * i) 3 := ⟨_, rfl⟩
        rw [← had2] at hP hD
        have e1 : (fun j => if j < i then some (ad (8 + 3 * j)) else none) = (fun j => if j < i then some (ad2 (8 + 3 * j)) else none) := by
          funext j; by_cases hj : j < i
          · rw [if_pos hj, if_pos hj, had2, dmix_out (by omega)]
          · rw [if_neg hj, if_neg hj]
        rw [e1] at hP hD
        have e2 : a9 (8 + 3 * i) = ad2 (8 + 3 * i) := by rw [had2, dmix_in (by omega)]
        rw [e2]
        have e3 : (([] ++ List.range' (44) 3) ++ List.range' 8 (3 * i)) ++ List.range' (8 + 3 * i) 3 = ([] ++ List.range' (44) 3) ++ List.range' 8 (3 * (i + 1)) := by rw [List.append_assoc, Nat.mul_succ, List.range'_append_1]
        rw [e3] at hP hD
        have hv : (ad2 (8 + 3 * i), .inr (9, [.ref (ad2 (8 + 3 * i + 1)), .ref (ad2 (8 + 3 * i + 2))])) ∈ dWL g ad2 dI (([] ++ List.range' (44) 3) ++ List.range' 8 (3 * (i + 1))) := List.mem_map.mpr ⟨8 + 3 * i, List.mem_append_right _ (List.mem_range'_1.mpr (by omega)), by rw [dck10 (lkX7_init i hlt).1]⟩
        refine d_ast (t0 := 4) (r := (RX9, TX9, 2)) S hE.1 (a := a) (q := q) (tl := dWL g ad2 dI (([] ++ List.range' (44) 3) ++ List.range' 8 (3 * (i + 1)))) hP hD hS hv rfl rfl (vp_in_nI hlt (by decide)) dX7_init_44 (fun H locs hP hD hS => ?_)
        rw [nI_clamp (show i < 2 ^ 31 by omega)] at hP hD
        have e4 : va_up (fun j => if j < i then some (ad2 (8 + 3 * j)) else none) i (some (ad2 (8 + 3 * i))) = (fun j => if j < i + 1 then some (ad2 (8 + 3 * j)) else none) := by
          funext j; unfold va_up; by_cases hj : j = i
          · subst hj; rw [if_pos rfl, if_pos (by omega)]
          · rw [if_neg hj]; show (if j < i then some (ad2 (8 + 3 * j)) else none) = _
            by_cases h2 : j < i
            · rw [if_pos h2, if_pos (by omega)]
            · rw [if_neg h2, if_neg (by omega)]
        rw [e4] at hP hD
        refine lv_iinc (v := nI (i + 1)) (lv' := [(1, .int (nI (i + 1))), (0, .ref a)]) S.1 S.2.1 dX7_init_45 hl (k := 0) rfl (nI_1 i) (by decide) rfl (fun ls hl => ?_)
        refine lv_goto (tgt := 26) S.1 S.2.1 dX7_init_48 (by decide) ?_
        refine W.widen (k := 4 + 3 * (i + 1)) (n := 34 + 22 * (i + 1)) (by omega) (by omega) ?_
        exact ih (i + 1) (by omega) ad2 H locs ls (fun j hj => by rw [had2, dmix_out (by omega)]; exact hag j hj) hP hD hS hl
  refine W.widen (k := 4 + 3 * 0) (n := 34 + 22 * 0) (by omega) (by omega) ?_
  have e0 : (fun _ => none) = (fun j => if j < 0 then some ((dmix (fun _ => 0) a1 (44) 3) (8 + 3 * j)) else none) := by funext j; rw [if_neg (Nat.not_lt_zero j)]
  exact loop 12 0 (by omega) (dmix (fun _ => 0) a1 (44) 3) H locs ls (fun _ _ => rfl) (by rw [← e0, show 3 * 0 = 0 from rfl, List.range'_zero, List.append_nil]; exact hP) (by rw [← e0, show 3 * 0 = 0 from rfl, List.range'_zero, List.append_nil]; exact hD) hS hl
theorem dX4_init_0 : decode cX4_init 0 = .ok (.aload_n 0, 1) := by decide +kernel
theorem dX4_init_1 : decode cX4_init 1 = .ok (.invokespecial 3, 3) := by decide +kernel
theorem dX4_init_4 : decode cX4_init 4 = .ok (.aload_n 0, 1) := by decide +kernel
theorem dX4_init_5 : decode cX4_init 5 = .ok (.bipush 10, 2) := by decide +kernel
theorem dX4_init_7 : decode cX4_init 7 = .ok (.bipush 10, 2) := by decide +kernel
theorem dX4_init_9 : decode cX4_init 9 = .ok (.multianewarray 9 2, 4) := by decide +kernel
theorem dX4_init_13 : decode cX4_init 13 = .ok (.putfield 11, 3) := by decide +kernel
theorem dX4_init_16 : decode cX4_init 16 = .ok (.aload_n 0, 1) := by decide +kernel
theorem dX4_init_17 : decode cX4_init 17 = .ok (.bipush 10, 2) := by decide +kernel
theorem dX4_init_19 : decode cX4_init 19 = .ok (.newarray .long, 2) := by decide +kernel
theorem dX4_init_21 : decode cX4_init 21 = .ok (.putfield 16, 3) := by decide +kernel
theorem dX4_init_24 : decode cX4_init 24 = .ok (.aload_n 0, 1) := by decide +kernel
theorem dX4_init_25 : decode cX4_init 25 = .ok (.bipush 10, 2) := by decide +kernel
theorem dX4_init_27 : decode cX4_init 27 = .ok (.newarray .long, 2) := by decide +kernel
theorem dX4_init_29 : decode cX4_init 29 = .ok (.putfield 20, 3) := by decide +kernel
theorem dX4_init_32 : decode cX4_init 32 = .ok (.aload_n 0, 1) := by decide +kernel
theorem dX4_init_33 : decode cX4_init 33 = .ok (.bipush 10, 2) := by decide +kernel
theorem dX4_init_35 : decode cX4_init 35 = .ok (.newarray .long, 2) := by decide +kernel
theorem dX4_init_37 : decode cX4_init 37 = .ok (.putfield 23, 3) := by decide +kernel
theorem dX4_init_40 : decode cX4_init 40 = .ok (.aload_n 0, 1) := by decide +kernel
theorem dX4_init_41 : decode cX4_init 41 = .ok (.bipush 10, 2) := by decide +kernel
theorem dX4_init_43 : decode cX4_init 43 = .ok (.newarray .int, 2) := by decide +kernel
theorem dX4_init_45 : decode cX4_init 45 = .ok (.putfield 26, 3) := by decide +kernel
theorem dX4_init_48 : decode cX4_init 48 = .ok (.aload_n 0, 1) := by decide +kernel
theorem dX4_init_49 : decode cX4_init 49 = .ok (.bipush 10, 2) := by decide +kernel
theorem dX4_init_51 : decode cX4_init 51 = .ok (.newarray .int, 2) := by decide +kernel
theorem dX4_init_53 : decode cX4_init 53 = .ok (.putfield 30, 3) := by decide +kernel
theorem dX4_init_56 : decode cX4_init 56 = .ok (.aload_n 0, 1) := by decide +kernel
theorem dX4_init_57 : decode cX4_init 57 = .ok (.bipush 10, 2) := by decide +kernel
theorem dX4_init_59 : decode cX4_init 59 = .ok (.newarray .boolean, 2) := by decide +kernel
theorem dX4_init_61 : decode cX4_init 61 = .ok (.putfield 33, 3) := by decide +kernel
theorem dX4_init_64 : decode cX4_init 64 = .ok (.return_, 1) := by decide +kernel
theorem mzX4_init_154 : ∀ j, j < 10 → dK (154 + 1 + j) = 22 ∧ dL (154 + 1 + j) = 10 ∧ dI.2 (154 + 1 + j) = fun _ => 0 := by
  intro j hj
  have h := (show ∀ j, j < 10 → dK (154 + 1 + j) = 22 ∧ dL (154 + 1 + j) = 10 by decide +kernel) j hj
  exact ⟨h.1, h.2, rfl⟩
set_option maxHeartbeats 4000000 in
set_option maxRecDepth 100000 in
theorem kiX4 (l : Launch) (g : dG) : dCMet l g yX4_init wsX4_init 1 20 17 170 4 [.null, .null, .null, .null, .null, .null, .null, .int 0] dI (153) 18 := by
  refine dcof (cc := cX4_init) (maxL := 1) (by decide) rfl rfl (by decide) ?_
  intro a p e s mth below meth cd S hr hlk hin hE hba hA H ls hP hD hS hl
  have S : CallFix p mth cd cX4_init 1 s #[Value.ref a] wsX4_init RX4 := S
  have hAb : ∀ q, dAc a s.heap.size q → g.2.2.2 ≤ q := fun q h => by rcases h with rfl | h; exact hba; exact Nat.le_trans hE.2.2.2.2.2.1 h
  obtain ⟨locs, hlocs⟩ : ∃ z : List Loc, z = [] := ⟨_, rfl⟩
  rw [← hlocs] at hS ⊢
  have hP : va_P g.1 vwCl ([(a, .inr (4, [.null, .null, .null, .null, .null, .null, .null, .int 0]))] ++ dWL g (fun _ => 0) dI []) H := hP
  have hD : va_D (dAc a s.heap.size) ([(a, .inr (4, [.null, .null, .null, .null, .null, .null, .null, .int 0]))] ++ dWL g (fun _ => 0) dI []) := hD
  have in4 : ∀ w ∈ wsX40, w ∈ wsX4_init := by decide +kernel
  refine lv_aload_n S.1 S.2.1 dX4_init_0 rfl (lv_at hl 0 rfl) ?_
  refine W.objInit S.1 S.2.1 S.2.2.2.1 (S.2.2.2.2 (.methodLink RX4 3 objectInit) (List.mem_of_getElem? (i := 1) rfl)) (S.2.2.2.2 (.instanceMethod objectInit) (List.mem_of_getElem? (i := 2) rfl)) (S.2.2.2.2 (.code objectInit ⟨#[0xb1]⟩ 1 none) (List.mem_of_getElem? (i := 3) rfl)) rfl (hl.1.trans S.2.2.1.symm) rfl dX4_init_1 (Nat.le_of_ble_eq_true rfl) (Nat.le_of_ble_eq_true rfl) ?_
  refine W.eq (g2 := F0 mth 4 ls []) rfl ?_
  refine lv_aload_n S.1 S.2.1 dX4_init_4 rfl (lv_at hl 0 rfl) ?_
  refine lv_bipush (v := 10) S.1 S.2.1 dX4_init_5 (by decide) ?_
  refine lv_bipush (v := 10) S.1 S.2.1 dX4_init_7 (by decide) ?_
  refine d_newAJ (mm := dI) (N' := 10) (K' := 10) (154) (by decide +kernel) (by decide +kernel) (fun j hj => mzX4_init_154 j hj) S (S.2.2.2.2 (.classLink RX4 9 "[[J") (List.mem_of_getElem? (i := 4) rfl)) hE.2.2.2.2.2.2.2.2.2.2.2.2 (S.2.2.2.2 (.arrayClass .long) (List.mem_of_getElem? (i := 5) rfl)) hE.1 hP hD hS hA (by decide) (by decide) (by decide) (by decide) (Nat.le_of_ble_eq_true rfl) (Nat.le_of_ble_eq_true rfl) (Nat.le_of_ble_eq_true rfl) (Nat.le_of_ble_eq_true rfl) (Nat.le_of_ble_eq_true rfl) dX4_init_9 (fun a1 H hP hD hS => ?_)
  obtain ⟨hP, hD⟩ := d_mix (dAp_of (by decide +kernel)) hP hD
  refine va_putF (D := g.1) (ci := 4) (v := .ref (a1 (154))) (ty := .array (.array .long)) (C := RX4) (T := TX4) (N := 8) S.1 S.2.1 S.2.2.2.2 in4 tyX4 tyX4_ok nmX4 S.2.2.2.1 hE.1 hP hD hS 0 rfl rfl 0 (by decide) (S.2.2.2.2 (.fieldLink RX4 11 "DrillField$Pairing" "weights" "[[J") (List.mem_of_getElem? (i := 6) rfl)) (fun _ h => h) rfl hin rfl (by decide +kernel) rfl rfl (Nat.le_of_ble_eq_true rfl) dX4_init_13 (fun H locs hP hD hS => ?_)
  have hP : va_P g.1 vwCl ([(a, .inr (4, [.ref (a1 (154)), .null, .null, .null, .null, .null, .null, .int 0]))] ++ dWL g (dmix (fun _ => 0) a1 (154) 11) dI ([] ++ List.range' (154) 11)) H := hP
  have hD : va_D (dAc a s.heap.size) ([(a, .inr (4, [.ref (a1 (154)), .null, .null, .null, .null, .null, .null, .int 0]))] ++ dWL g (dmix (fun _ => 0) a1 (154) 11) dI ([] ++ List.range' (154) 11)) := hD
  refine lv_aload_n S.1 S.2.1 dX4_init_16 rfl (lv_at hl 0 rfl) ?_
  refine lv_bipush (v := 10) S.1 S.2.1 dX4_init_17 (by decide) ?_
  refine d_newJ (mm := dI) (N' := 10) (165) (by decide +kernel) (by decide +kernel) rfl S (S.2.2.2.2 (.arrayClass .long) (List.mem_of_getElem? (i := 5) rfl)) hE.1 hP hD hS hA (by decide) (by decide) (Nat.le_of_ble_eq_true rfl) (Nat.le_of_ble_eq_true rfl) (Nat.le_of_ble_eq_true rfl) dX4_init_19 (fun a2 H hP hD hS => ?_)
  obtain ⟨hP, hD⟩ := d_mix (dAp_of (by decide +kernel)) hP hD
  refine va_putF (D := g.1) (ci := 4) (v := .ref (a2 (165))) (ty := .array .long) (C := RX4) (T := TX4) (N := 8) S.1 S.2.1 S.2.2.2.2 in4 tyX4 tyX4_ok nmX4 S.2.2.2.1 hE.1 hP hD hS 0 rfl rfl 1 (by decide) (S.2.2.2.2 (.fieldLink RX4 16 "DrillField$Pairing" "dotPrices" "[J") (List.mem_of_getElem? (i := 7) rfl)) (fun _ h => h) rfl hin rfl (by decide +kernel) rfl rfl (Nat.le_of_ble_eq_true rfl) dX4_init_21 (fun H locs hP hD hS => ?_)
  have hP : va_P g.1 vwCl ([(a, .inr (4, [.ref (a1 (154)), .ref (a2 (165)), .null, .null, .null, .null, .null, .int 0]))] ++ dWL g (dmix (dmix (fun _ => 0) a1 (154) 11) a2 (165) 1) dI (([] ++ List.range' (154) 11) ++ List.range' (165) 1)) H := hP
  have hD : va_D (dAc a s.heap.size) ([(a, .inr (4, [.ref (a1 (154)), .ref (a2 (165)), .null, .null, .null, .null, .null, .int 0]))] ++ dWL g (dmix (dmix (fun _ => 0) a1 (154) 11) a2 (165) 1) dI (([] ++ List.range' (154) 11) ++ List.range' (165) 1)) := hD
  refine lv_aload_n S.1 S.2.1 dX4_init_24 rfl (lv_at hl 0 rfl) ?_
  refine lv_bipush (v := 10) S.1 S.2.1 dX4_init_25 (by decide) ?_
  refine d_newJ (mm := dI) (N' := 10) (166) (by decide +kernel) (by decide +kernel) rfl S (S.2.2.2.2 (.arrayClass .long) (List.mem_of_getElem? (i := 5) rfl)) hE.1 hP hD hS hA (by decide) (by decide) (Nat.le_of_ble_eq_true rfl) (Nat.le_of_ble_eq_true rfl) (Nat.le_of_ble_eq_true rfl) dX4_init_27 (fun a3 H hP hD hS => ?_)
  obtain ⟨hP, hD⟩ := d_mix (dAp_of (by decide +kernel)) hP hD
  refine va_putF (D := g.1) (ci := 4) (v := .ref (a3 (166))) (ty := .array .long) (C := RX4) (T := TX4) (N := 8) S.1 S.2.1 S.2.2.2.2 in4 tyX4 tyX4_ok nmX4 S.2.2.2.1 hE.1 hP hD hS 0 rfl rfl 2 (by decide) (S.2.2.2.2 (.fieldLink RX4 20 "DrillField$Pairing" "placePrices" "[J") (List.mem_of_getElem? (i := 8) rfl)) (fun _ h => h) rfl hin rfl (by decide +kernel) rfl rfl (Nat.le_of_ble_eq_true rfl) dX4_init_29 (fun H locs hP hD hS => ?_)
  have hP : va_P g.1 vwCl ([(a, .inr (4, [.ref (a1 (154)), .ref (a2 (165)), .ref (a3 (166)), .null, .null, .null, .null, .int 0]))] ++ dWL g (dmix (dmix (dmix (fun _ => 0) a1 (154) 11) a2 (165) 1) a3 (166) 1) dI ((([] ++ List.range' (154) 11) ++ List.range' (165) 1) ++ List.range' (166) 1)) H := hP
  have hD : va_D (dAc a s.heap.size) ([(a, .inr (4, [.ref (a1 (154)), .ref (a2 (165)), .ref (a3 (166)), .null, .null, .null, .null, .int 0]))] ++ dWL g (dmix (dmix (dmix (fun _ => 0) a1 (154) 11) a2 (165) 1) a3 (166) 1) dI ((([] ++ List.range' (154) 11) ++ List.range' (165) 1) ++ List.range' (166) 1)) := hD
  refine lv_aload_n S.1 S.2.1 dX4_init_32 rfl (lv_at hl 0 rfl) ?_
  refine lv_bipush (v := 10) S.1 S.2.1 dX4_init_33 (by decide) ?_
  refine d_newJ (mm := dI) (N' := 10) (167) (by decide +kernel) (by decide +kernel) rfl S (S.2.2.2.2 (.arrayClass .long) (List.mem_of_getElem? (i := 5) rfl)) hE.1 hP hD hS hA (by decide) (by decide) (Nat.le_of_ble_eq_true rfl) (Nat.le_of_ble_eq_true rfl) (Nat.le_of_ble_eq_true rfl) dX4_init_35 (fun a4 H hP hD hS => ?_)
  obtain ⟨hP, hD⟩ := d_mix (dAp_of (by decide +kernel)) hP hD
  refine va_putF (D := g.1) (ci := 4) (v := .ref (a4 (167))) (ty := .array .long) (C := RX4) (T := TX4) (N := 8) S.1 S.2.1 S.2.2.2.2 in4 tyX4 tyX4_ok nmX4 S.2.2.2.1 hE.1 hP hD hS 0 rfl rfl 3 (by decide) (S.2.2.2.2 (.fieldLink RX4 23 "DrillField$Pairing" "gaps" "[J") (List.mem_of_getElem? (i := 9) rfl)) (fun _ h => h) rfl hin rfl (by decide +kernel) rfl rfl (Nat.le_of_ble_eq_true rfl) dX4_init_37 (fun H locs hP hD hS => ?_)
  have hP : va_P g.1 vwCl ([(a, .inr (4, [.ref (a1 (154)), .ref (a2 (165)), .ref (a3 (166)), .ref (a4 (167)), .null, .null, .null, .int 0]))] ++ dWL g (dmix (dmix (dmix (dmix (fun _ => 0) a1 (154) 11) a2 (165) 1) a3 (166) 1) a4 (167) 1) dI (((([] ++ List.range' (154) 11) ++ List.range' (165) 1) ++ List.range' (166) 1) ++ List.range' (167) 1)) H := hP
  have hD : va_D (dAc a s.heap.size) ([(a, .inr (4, [.ref (a1 (154)), .ref (a2 (165)), .ref (a3 (166)), .ref (a4 (167)), .null, .null, .null, .int 0]))] ++ dWL g (dmix (dmix (dmix (dmix (fun _ => 0) a1 (154) 11) a2 (165) 1) a3 (166) 1) a4 (167) 1) dI (((([] ++ List.range' (154) 11) ++ List.range' (165) 1) ++ List.range' (166) 1) ++ List.range' (167) 1)) := hD
  refine lv_aload_n S.1 S.2.1 dX4_init_40 rfl (lv_at hl 0 rfl) ?_
  refine lv_bipush (v := 10) S.1 S.2.1 dX4_init_41 (by decide) ?_
  refine d_newI (mm := dI) (N' := 10) (168) (by decide +kernel) (by decide +kernel) (dI_z (by decide +kernel)) S (S.2.2.2.2 (.arrayClass .int) (List.mem_of_getElem? (i := 10) rfl)) hE.1 hP hD hS hA (by decide) (by decide) (Nat.le_of_ble_eq_true rfl) (Nat.le_of_ble_eq_true rfl) (Nat.le_of_ble_eq_true rfl) dX4_init_43 (fun a5 H hP hD hS => ?_)
  obtain ⟨hP, hD⟩ := d_mix (dAp_of (by decide +kernel)) hP hD
  refine va_putF (D := g.1) (ci := 4) (v := .ref (a5 (168))) (ty := .array .int) (C := RX4) (T := TX4) (N := 8) S.1 S.2.1 S.2.2.2.2 in4 tyX4 tyX4_ok nmX4 S.2.2.2.1 hE.1 hP hD hS 0 rfl rfl 4 (by decide) (S.2.2.2.2 (.fieldLink RX4 26 "DrillField$Pairing" "ahead" "[I") (List.mem_of_getElem? (i := 11) rfl)) (fun _ h => h) rfl hin rfl (by decide +kernel) rfl rfl (Nat.le_of_ble_eq_true rfl) dX4_init_45 (fun H locs hP hD hS => ?_)
  have hP : va_P g.1 vwCl ([(a, .inr (4, [.ref (a1 (154)), .ref (a2 (165)), .ref (a3 (166)), .ref (a4 (167)), .ref (a5 (168)), .null, .null, .int 0]))] ++ dWL g (dmix (dmix (dmix (dmix (dmix (fun _ => 0) a1 (154) 11) a2 (165) 1) a3 (166) 1) a4 (167) 1) a5 (168) 1) dI ((((([] ++ List.range' (154) 11) ++ List.range' (165) 1) ++ List.range' (166) 1) ++ List.range' (167) 1) ++ List.range' (168) 1)) H := hP
  have hD : va_D (dAc a s.heap.size) ([(a, .inr (4, [.ref (a1 (154)), .ref (a2 (165)), .ref (a3 (166)), .ref (a4 (167)), .ref (a5 (168)), .null, .null, .int 0]))] ++ dWL g (dmix (dmix (dmix (dmix (dmix (fun _ => 0) a1 (154) 11) a2 (165) 1) a3 (166) 1) a4 (167) 1) a5 (168) 1) dI ((((([] ++ List.range' (154) 11) ++ List.range' (165) 1) ++ List.range' (166) 1) ++ List.range' (167) 1) ++ List.range' (168) 1)) := hD
  refine lv_aload_n S.1 S.2.1 dX4_init_48 rfl (lv_at hl 0 rfl) ?_
  refine lv_bipush (v := 10) S.1 S.2.1 dX4_init_49 (by decide) ?_
  refine d_newI (mm := dI) (N' := 10) (169) (by decide +kernel) (by decide +kernel) (dI_z (by decide +kernel)) S (S.2.2.2.2 (.arrayClass .int) (List.mem_of_getElem? (i := 10) rfl)) hE.1 hP hD hS hA (by decide) (by decide) (Nat.le_of_ble_eq_true rfl) (Nat.le_of_ble_eq_true rfl) (Nat.le_of_ble_eq_true rfl) dX4_init_51 (fun a6 H hP hD hS => ?_)
  obtain ⟨hP, hD⟩ := d_mix (dAp_of (by decide +kernel)) hP hD
  refine va_putF (D := g.1) (ci := 4) (v := .ref (a6 (169))) (ty := .array .int) (C := RX4) (T := TX4) (N := 8) S.1 S.2.1 S.2.2.2.2 in4 tyX4 tyX4_ok nmX4 S.2.2.2.1 hE.1 hP hD hS 0 rfl rfl 5 (by decide) (S.2.2.2.2 (.fieldLink RX4 30 "DrillField$Pairing" "holders" "[I") (List.mem_of_getElem? (i := 12) rfl)) (fun _ h => h) rfl hin rfl (by decide +kernel) rfl rfl (Nat.le_of_ble_eq_true rfl) dX4_init_53 (fun H locs hP hD hS => ?_)
  have hP : va_P g.1 vwCl ([(a, .inr (4, [.ref (a1 (154)), .ref (a2 (165)), .ref (a3 (166)), .ref (a4 (167)), .ref (a5 (168)), .ref (a6 (169)), .null, .int 0]))] ++ dWL g (dmix (dmix (dmix (dmix (dmix (dmix (fun _ => 0) a1 (154) 11) a2 (165) 1) a3 (166) 1) a4 (167) 1) a5 (168) 1) a6 (169) 1) dI (((((([] ++ List.range' (154) 11) ++ List.range' (165) 1) ++ List.range' (166) 1) ++ List.range' (167) 1) ++ List.range' (168) 1) ++ List.range' (169) 1)) H := hP
  have hD : va_D (dAc a s.heap.size) ([(a, .inr (4, [.ref (a1 (154)), .ref (a2 (165)), .ref (a3 (166)), .ref (a4 (167)), .ref (a5 (168)), .ref (a6 (169)), .null, .int 0]))] ++ dWL g (dmix (dmix (dmix (dmix (dmix (dmix (fun _ => 0) a1 (154) 11) a2 (165) 1) a3 (166) 1) a4 (167) 1) a5 (168) 1) a6 (169) 1) dI (((((([] ++ List.range' (154) 11) ++ List.range' (165) 1) ++ List.range' (166) 1) ++ List.range' (167) 1) ++ List.range' (168) 1) ++ List.range' (169) 1)) := hD
  refine lv_aload_n S.1 S.2.1 dX4_init_56 rfl (lv_at hl 0 rfl) ?_
  refine lv_bipush (v := 10) S.1 S.2.1 dX4_init_57 (by decide) ?_
  refine d_newZ (mm := dI) (N' := 10) (170) (by decide +kernel) (by decide +kernel) (dI_z (by decide +kernel)) S (S.2.2.2.2 (.arrayClass .boolean) (List.mem_of_getElem? (i := 13) rfl)) hE.1 hP hD hS hA (by decide) (by decide) (Nat.le_of_ble_eq_true rfl) (Nat.le_of_ble_eq_true rfl) (Nat.le_of_ble_eq_true rfl) dX4_init_59 (fun a7 H hP hD hS => ?_)
  obtain ⟨hP, hD⟩ := d_mix (dAp_of (by decide +kernel)) hP hD
  refine va_putF (D := g.1) (ci := 4) (v := .ref (a7 (170))) (ty := .array .boolean) (C := RX4) (T := TX4) (N := 8) S.1 S.2.1 S.2.2.2.2 in4 tyX4 tyX4_ok nmX4 S.2.2.2.1 hE.1 hP hD hS 0 rfl rfl 6 (by decide) (S.2.2.2.2 (.fieldLink RX4 33 "DrillField$Pairing" "isReached" "[Z") (List.mem_of_getElem? (i := 14) rfl)) (fun _ h => h) rfl hin rfl (by decide +kernel) rfl rfl (Nat.le_of_ble_eq_true rfl) dX4_init_61 (fun H locs hP hD hS => ?_)
  have hP : va_P g.1 vwCl ([(a, .inr (4, [.ref (a1 (154)), .ref (a2 (165)), .ref (a3 (166)), .ref (a4 (167)), .ref (a5 (168)), .ref (a6 (169)), .ref (a7 (170)), .int 0]))] ++ dWL g (dmix (dmix (dmix (dmix (dmix (dmix (dmix (fun _ => 0) a1 (154) 11) a2 (165) 1) a3 (166) 1) a4 (167) 1) a5 (168) 1) a6 (169) 1) a7 (170) 1) dI ((((((([] ++ List.range' (154) 11) ++ List.range' (165) 1) ++ List.range' (166) 1) ++ List.range' (167) 1) ++ List.range' (168) 1) ++ List.range' (169) 1) ++ List.range' (170) 1)) H := hP
  have hD : va_D (dAc a s.heap.size) ([(a, .inr (4, [.ref (a1 (154)), .ref (a2 (165)), .ref (a3 (166)), .ref (a4 (167)), .ref (a5 (168)), .ref (a6 (169)), .ref (a7 (170)), .int 0]))] ++ dWL g (dmix (dmix (dmix (dmix (dmix (dmix (dmix (fun _ => 0) a1 (154) 11) a2 (165) 1) a3 (166) 1) a4 (167) 1) a5 (168) 1) a6 (169) 1) a7 (170) 1) dI ((((((([] ++ List.range' (154) 11) ++ List.range' (165) 1) ++ List.range' (166) 1) ++ List.range' (167) 1) ++ List.range' (168) 1) ++ List.range' (169) 1) ++ List.range' (170) 1)) := hD
  refine d_tc (ad := (fun j => if j = 153 then a else (dmix (dmix (dmix (dmix (dmix (dmix (dmix (fun _ => 0) a1 (154) 11) a2 (165) 1) a3 (166) 1) a4 (167) 1) a5 (168) 1) a6 (169) 1) a7 (170) 1) j)) (ids := ([153] ++ ((((((([] ++ List.range' (154) 11) ++ List.range' (165) 1) ++ List.range' (166) 1) ++ List.range' (167) 1) ++ List.range' (168) 1) ++ List.range' (169) 1) ++ List.range' (170) 1))) S hr hlk ?_ (fun i h1 h2 => ?_) (if_pos rfl) (of_decide_eq_true (by decide +kernel)) hP hD hS (Nat.le_of_ble_eq_true rfl) (Nat.le_of_ble_eq_true rfl) dX4_init_64
  · show (_ :: _) = (_ :: _)
    refine List.cons_eq_cons.mpr ⟨?_, ?_⟩
    · refine Prod.ext (by simp) ?_
      show _ = dct (dga g _) dI (153)
      rw [dck5 (show dK 153 = 5 by decide +kernel)]
      simp [dmix, (show dK 153 = 5 by decide +kernel), dI_at, dI1]
    · exact dWL_no (xs := [153]) (by decide +kernel) (fun j hj => by rw [if_neg (by simpa using hj)])
  · have := List.all_eq_true.mp (show ((List.range' (153) 18).all fun i => (([153] ++ ((((((([] ++ List.range' (154) 11) ++ List.range' (165) 1) ++ List.range' (166) 1) ++ List.range' (167) 1) ++ List.range' (168) 1) ++ List.range' (169) 1) ++ List.range' (170) 1))).contains i) = true from (by decide +kernel)) i (List.mem_range'_1.mpr ⟨h1, h2⟩)
    simpa using this
set_option maxRecDepth 20000 in
theorem ggX8_init_X5_init : GoodIn wsX8_init wsX5_init := goodIn_r _ [14, 15, 2, 3, 16, 17, 18, 19, 20, 21, 22, 23, 24, 25, 26, 27, 28, 29, 62, 63, 47, 48, 49, 50, 51, 52, 53] (by decide +kernel) (by decide +kernel)
set_option maxRecDepth 20000 in
theorem gX8_init_X5_init_n17 : GoodIn wsX8_init (wsX5_init) := ggX8_init_X5_init
set_option maxRecDepth 20000 in
theorem ggX8_init_X4_init : GoodIn wsX8_init wsX4_init := goodIn_r _ [31, 32, 2, 3, 33, 34, 35, 36, 37, 38, 21, 39, 40, 41, 42, 54, 55, 56, 57, 58, 59, 60, 61] (by decide +kernel) (by decide +kernel)
set_option maxRecDepth 20000 in
theorem gX8_init_X4_init_n24 : GoodIn wsX8_init (wsX4_init) := ggX8_init_X4_init
theorem dX8_init_0 : decode cX8_init 0 = .ok (.aload_n 0, 1) := by decide +kernel
theorem dX8_init_1 : decode cX8_init 1 = .ok (.invokespecial 3, 3) := by decide +kernel
theorem dX8_init_4 : decode cX8_init 4 = .ok (.aload_n 0, 1) := by decide +kernel
theorem dX8_init_5 : decode cX8_init 5 = .ok (.bipush 12, 2) := by decide +kernel
theorem dX8_init_7 : decode cX8_init 7 = .ok (.anewarray 9, 3) := by decide +kernel
theorem dX8_init_10 : decode cX8_init 10 = .ok (.putfield 11, 3) := by decide +kernel
theorem dX8_init_13 : decode cX8_init 13 = .ok (.aload_n 0, 1) := by decide +kernel
theorem dX8_init_14 : decode cX8_init 14 = .ok (.new 9, 3) := by decide +kernel
theorem dX8_init_17 : decode cX8_init 17 = .ok (.dup, 1) := by decide +kernel
theorem dX8_init_18 : decode cX8_init 18 = .ok (.invokespecial 17, 3) := by decide +kernel
theorem dX8_init_21 : decode cX8_init 21 = .ok (.putfield 18, 3) := by decide +kernel
theorem dX8_init_24 : decode cX8_init 24 = .ok (.aload_n 0, 1) := by decide +kernel
theorem dX8_init_25 : decode cX8_init 25 = .ok (.new 22, 3) := by decide +kernel
theorem dX8_init_28 : decode cX8_init 28 = .ok (.dup, 1) := by decide +kernel
theorem dX8_init_29 : decode cX8_init 29 = .ok (.invokespecial 24, 3) := by decide +kernel
theorem dX8_init_32 : decode cX8_init 32 = .ok (.putfield 25, 3) := by decide +kernel
theorem dX8_init_35 : decode cX8_init 35 = .ok (.iconst 0, 1) := by decide +kernel
theorem dX8_init_36 : decode cX8_init 36 = .ok (.istore_n 1, 1) := by decide +kernel
theorem dX8_init_37 : decode cX8_init 37 = .ok (.iload_n 1, 1) := by decide +kernel
theorem dX8_init_38 : decode cX8_init 38 = .ok (.bipush 12, 2) := by decide +kernel
theorem dX8_init_40 : decode cX8_init 40 = .ok (.if_icmp .ge 22, 3) := by decide +kernel
theorem dX8_init_43 : decode cX8_init 43 = .ok (.aload_n 0, 1) := by decide +kernel
theorem dX8_init_44 : decode cX8_init 44 = .ok (.getfield 11, 3) := by decide +kernel
theorem dX8_init_47 : decode cX8_init 47 = .ok (.iload_n 1, 1) := by decide +kernel
theorem dX8_init_48 : decode cX8_init 48 = .ok (.new 9, 3) := by decide +kernel
theorem dX8_init_51 : decode cX8_init 51 = .ok (.dup, 1) := by decide +kernel
theorem dX8_init_52 : decode cX8_init 52 = .ok (.invokespecial 17, 3) := by decide +kernel
theorem dX8_init_55 : decode cX8_init 55 = .ok (.aastore, 1) := by decide +kernel
theorem dX8_init_56 : decode cX8_init 56 = .ok (.iinc 1 1, 3) := by decide +kernel
theorem dX8_init_59 : decode cX8_init 59 = .ok (.goto (-22), 3) := by decide +kernel
theorem dX8_init_62 : decode cX8_init 62 = .ok (.return_, 1) := by decide +kernel
theorem lkX8_init : ∀ i, i < 12 → dK (49 + 8 * i) = 6 ∧ dApB ((([] ++ List.range' (145) 8) ++ List.range' (153) 18) ++ List.range' 49 (8 * i)) (49 + 8 * i) 8 = true := by decide +kernel
set_option maxHeartbeats 4000000 in
set_option maxRecDepth 100000 in
theorem kiX8 (l : Launch) (g : dG) : dCMet l g yX8_init wsX8_init 3 60 123 983 8 [.null, .null, .null, .int 0] dI (47) 124 := by
  refine dcof (cc := cX8_init) (maxL := 2) (by decide) rfl rfl (by decide) ?_
  intro a p e s mth below meth cd S hr hlk hin hE hba hA H ls hP hD hS hl
  have S : CallFix p mth cd cX8_init 2 s #[Value.ref a] wsX8_init RX8 := S
  have hAb : ∀ q, dAc a s.heap.size q → g.2.2.2 ≤ q := fun q h => by rcases h with rfl | h; exact hba; exact Nat.le_trans hE.2.2.2.2.2.1 h
  obtain ⟨locs, hlocs⟩ : ∃ z : List Loc, z = [] := ⟨_, rfl⟩
  rw [← hlocs] at hS ⊢
  have hP : va_P g.1 vwCl ([(a, .inr (8, [.null, .null, .null, .int 0]))] ++ dWL g (fun _ => 0) dI []) H := hP
  have hD : va_D (dAc a s.heap.size) ([(a, .inr (8, [.null, .null, .null, .int 0]))] ++ dWL g (fun _ => 0) dI []) := hD
  have in4 : ∀ w ∈ wsX40, w ∈ wsX8_init := by decide +kernel
  have in5 : ∀ w ∈ wsX50, w ∈ wsX8_init := by decide +kernel
  have in8 : ∀ w ∈ wsX80, w ∈ wsX8_init := by decide +kernel
  refine lv_aload_n S.1 S.2.1 dX8_init_0 rfl (lv_at hl 0 rfl) ?_
  refine W.objInit S.1 S.2.1 S.2.2.2.1 (S.2.2.2.2 (.methodLink RX8 3 objectInit) (List.mem_of_getElem? (i := 1) rfl)) (S.2.2.2.2 (.instanceMethod objectInit) (List.mem_of_getElem? (i := 2) rfl)) (S.2.2.2.2 (.code objectInit ⟨#[0xb1]⟩ 1 none) (List.mem_of_getElem? (i := 3) rfl)) rfl (hl.1.trans S.2.2.1.symm) rfl dX8_init_1 (Nat.le_of_ble_eq_true rfl) (Nat.le_of_ble_eq_true rfl) ?_
  refine W.eq (g2 := F0 mth 4 ls []) rfl ?_
  refine lv_aload_n S.1 S.2.1 dX8_init_4 rfl (lv_at hl 0 rfl) ?_
  refine lv_bipush (v := 12) S.1 S.2.1 dX8_init_5 (by decide) ?_
  refine d_newQ (C := "DrillField$Part") (N' := 12) (cB := dcy g 3) 3 rfl S (S.2.2.2.2 (.classLink RX8 9 RX5) (List.mem_of_getElem? (i := 4) rfl)) hE.2.2.2.2.2.2.2.2.2.1 hE.1 hP hD hS hA (by decide) (by decide) (Nat.le_of_ble_eq_true rfl) (Nat.le_of_ble_eq_true rfl) (Nat.le_of_ble_eq_true rfl) dX8_init_7 (fun q H hP hD hS => ?_)
  have hP : va_P g.1 vwCl ([(a, .inr (8, [.null, .null, .null, .int 0])), (q, .inl (dcy g 3, 12, .inr (.inr (.inr (.inr (fun _ => none))))))] ++ dWL g (fun _ => 0) dI []) H := hP
  have hD : va_D (dAc a s.heap.size) ([(a, .inr (8, [.null, .null, .null, .int 0])), (q, .inl (dcy g 3, 12, .inr (.inr (.inr (.inr (fun _ => none))))))] ++ dWL g (fun _ => 0) dI []) := hD
  refine va_putF (D := g.1) (ci := 8) (v := .ref q) (ty := .array (.object "DrillField$Part")) (C := RX8) (T := TX8) (N := 4) S.1 S.2.1 S.2.2.2.2 in8 tyX8 tyX8_ok nmX8 S.2.2.2.1 hE.1 hP hD hS 0 rfl rfl 0 (by decide) (S.2.2.2.2 (.fieldLink RX8 11 "DrillField$Show" "parts" "[LDrillField$Part;") (List.mem_of_getElem? (i := 5) rfl)) (fun _ h => h) rfl hin rfl (by decide +kernel) rfl rfl (Nat.le_of_ble_eq_true rfl) dX8_init_10 (fun H locs hP hD hS => ?_)
  have hP : va_P g.1 vwCl ([(a, .inr (8, [.ref q, .null, .null, .int 0])), (q, .inl (dcy g 3, 12, .inr (.inr (.inr (.inr (fun _ => none))))))] ++ dWL g (fun _ => 0) dI []) H := hP
  have hD : va_D (dAc a s.heap.size) ([(a, .inr (8, [.ref q, .null, .null, .int 0])), (q, .inl (dcy g 3, 12, .inr (.inr (.inr (.inr (fun _ => none))))))] ++ dWL g (fun _ => 0) dI []) := hD
  refine lv_aload_n S.1 S.2.1 dX8_init_13 rfl (lv_at hl 0 rfl) ?_
  refine d_newo (C := RX5) (T := TX5) (N := 7) (ci := 5) (fs := [.null, .null, .null, .int 0, .int 0, .int 0, .int 0]) (k1 := 7) (k2 := 54) (145) 8 tyX5 tyX5_ok S in5 (S.2.2.2.2 (.classLink RX8 9 RX5) (List.mem_of_getElem? (i := 4) rfl)) (S.2.2.2.2 (.instantiable RX5 7) (List.mem_of_getElem? (i := 6) rfl)) (S.2.2.2.2 (.initialized RX5) (List.mem_of_getElem? (i := 7) rfl)) hE hAb hP hD hS hA rfl hfsX5 (fun q9 H9 locs9 c9 s9 hp hf => va_runIN (As := []) (rest := [.ref q9, .ref a]) S (kiX5 l g (c := 145) (by decide +kernel) q9 _) ⟨va_cnB 0 S.2.2.2.2 gX8_init_X5_init_n17 rfl rfl rfl (dnqi_RX8_17 hE) (S.2.2.2.2 (.initialized RX5) (List.mem_of_getElem? (i := 7) rfl)) yniX5 ⟨(Nat.le_of_ble_eq_true rfl), (Nat.le_of_ble_eq_true rfl)⟩, rfl, S.2.2.2.2 (.instanceMethod yX5_init) (List.mem_of_getElem? (i := 13) rfl)⟩ hp rfl rfl hl.1 rfl (lv_room (Nat.le_of_ble_eq_true rfl)) dX8_init_18 hf) (Nat.le_of_ble_eq_true rfl) (Nat.le_of_ble_eq_true rfl) dX8_init_14 dX8_init_17 (fun a1 H locs hP hD hS => ?_)
  obtain ⟨hP, hD⟩ := d_mix (dAp_of (by decide +kernel)) hP hD
  refine va_putF (D := g.1) (ci := 8) (v := .ref (a1 (145))) (ty := .object "DrillField$Part") (C := RX8) (T := TX8) (N := 4) S.1 S.2.1 S.2.2.2.2 in8 tyX8 tyX8_ok nmX8 S.2.2.2.1 hE.1 hP hD hS 0 rfl rfl 1 (by decide) (S.2.2.2.2 (.fieldLink RX8 18 "DrillField$Show" "spare" "LDrillField$Part;") (List.mem_of_getElem? (i := 8) rfl)) (fun _ h => h) rfl hin rfl (by decide +kernel) rfl rfl (Nat.le_of_ble_eq_true rfl) dX8_init_21 (fun H locs hP hD hS => ?_)
  have hP : va_P g.1 vwCl ([(a, .inr (8, [.ref q, .ref (a1 (145)), .null, .int 0])), (q, .inl (dcy g 3, 12, .inr (.inr (.inr (.inr (fun _ => none))))))] ++ dWL g (dmix (fun _ => 0) a1 (145) 8) dI ([] ++ List.range' (145) 8)) H := hP
  have hD : va_D (dAc a s.heap.size) ([(a, .inr (8, [.ref q, .ref (a1 (145)), .null, .int 0])), (q, .inl (dcy g 3, 12, .inr (.inr (.inr (.inr (fun _ => none))))))] ++ dWL g (dmix (fun _ => 0) a1 (145) 8) dI ([] ++ List.range' (145) 8)) := hD
  refine lv_aload_n S.1 S.2.1 dX8_init_24 rfl (lv_at hl 0 rfl) ?_
  refine d_newo (C := RX4) (T := TX4) (N := 8) (ci := 4) (fs := [.null, .null, .null, .null, .null, .null, .null, .int 0]) (k1 := 17) (k2 := 170) (153) 18 tyX4 tyX4_ok S in4 (S.2.2.2.2 (.classLink RX8 22 RX4) (List.mem_of_getElem? (i := 9) rfl)) (S.2.2.2.2 (.instantiable RX4 8) (List.mem_of_getElem? (i := 10) rfl)) (S.2.2.2.2 (.initialized RX4) (List.mem_of_getElem? (i := 11) rfl)) hE hAb hP hD hS hA rfl hfsX4 (fun q9 H9 locs9 c9 s9 hp hf => va_runIN (As := []) (rest := [.ref q9, .ref a]) S (kiX4 l g q9 _) ⟨va_cnB 0 S.2.2.2.2 gX8_init_X4_init_n24 rfl rfl rfl (dnqi_RX8_24 hE) (S.2.2.2.2 (.initialized RX4) (List.mem_of_getElem? (i := 11) rfl)) yniX4 ⟨(Nat.le_of_ble_eq_true rfl), (Nat.le_of_ble_eq_true rfl)⟩, rfl, S.2.2.2.2 (.instanceMethod yX4_init) (List.mem_of_getElem? (i := 30) rfl)⟩ hp rfl rfl hl.1 rfl (lv_room (Nat.le_of_ble_eq_true rfl)) dX8_init_29 hf) (Nat.le_of_ble_eq_true rfl) (Nat.le_of_ble_eq_true rfl) dX8_init_25 dX8_init_28 (fun a2 H locs hP hD hS => ?_)
  obtain ⟨hP, hD⟩ := d_mix (dAp_of (by decide +kernel)) hP hD
  refine va_putF (D := g.1) (ci := 8) (v := .ref (a2 (153))) (ty := .object "DrillField$Pairing") (C := RX8) (T := TX8) (N := 4) S.1 S.2.1 S.2.2.2.2 in8 tyX8 tyX8_ok nmX8 S.2.2.2.1 hE.1 hP hD hS 0 rfl rfl 2 (by decide) (S.2.2.2.2 (.fieldLink RX8 25 "DrillField$Show" "pairing" "LDrillField$Pairing;") (List.mem_of_getElem? (i := 12) rfl)) (fun _ h => h) rfl hin rfl (by decide +kernel) rfl rfl (Nat.le_of_ble_eq_true rfl) dX8_init_32 (fun H locs hP hD hS => ?_)
  have hP : va_P g.1 vwCl ([(a, .inr (8, [.ref q, .ref (a1 (145)), .ref (a2 (153)), .int 0])), (q, .inl (dcy g 3, 12, .inr (.inr (.inr (.inr (fun _ => none))))))] ++ dWL g (dmix (dmix (fun _ => 0) a1 (145) 8) a2 (153) 18) dI (([] ++ List.range' (145) 8) ++ List.range' (153) 18)) H := hP
  have hD : va_D (dAc a s.heap.size) ([(a, .inr (8, [.ref q, .ref (a1 (145)), .ref (a2 (153)), .int 0])), (q, .inl (dcy g 3, 12, .inr (.inr (.inr (.inr (fun _ => none))))))] ++ dWL g (dmix (dmix (fun _ => 0) a1 (145) 8) a2 (153) 18) dI (([] ++ List.range' (145) 8) ++ List.range' (153) 18)) := hD
  refine lv_iconst (v := 0) S.1 S.2.1 dX8_init_35 (by decide) ?_
  refine lv_istore_n (lv' := [(1, .int 0), (0, .ref a)]) S.1 S.2.1 dX8_init_36 rfl hl (by decide) rfl (fun ls hl => ?_)
  have loop : ∀ (k i : Nat), i + k = 12 → ∀ (ad : Nat → Nat) (H : Heap) (locs : List Loc) (ls : Array Slot), (∀ j, ¬ (49 ≤ j ∧ j < 145) → ad j = (dmix (dmix (fun _ => 0) a1 (145) 8) a2 (153) 18) j) → va_P g.1 vwCl ([(a, .inr (8, [.ref q, .ref (a1 (145)), .ref (a2 (153)), .int 0])), (q, .inl (dcy g 3, 12, .inr (.inr (.inr (.inr (fun j => if j < i then some (ad (49 + 8 * j)) else none))))))] ++ dWL g ad dI ((([] ++ List.range' (145) 8) ++ List.range' (153) 18) ++ List.range' 49 (8 * i))) H → va_D (dAc a s.heap.size) ([(a, .inr (8, [.ref q, .ref (a1 (145)), .ref (a2 (153)), .int 0])), (q, .inl (dcy g 3, 12, .inr (.inr (.inr (.inr (fun j => if j < i then some (ad (49 + 8 * j)) else none))))))] ++ dWL g ad dI ((([] ++ List.range' (145) 8) ++ List.range' (153) 18) ++ List.range' 49 (8 * i))) → va_S (dAc a s.heap.size) s.heap H locs → lv_has ls 2 [(1, .int (nI i)), (0, .ref a)] → W p l e (headSpec wsX8_init (dCm 123 983 3 60)).room s mth #[Value.ref a] below meth cd H locs (27 + 8 * i) (251 + 61 * i) (MQ below (dCQ g dI (47) 124 a s.heap.size) #[Value.ref a] s 123 983 (dAc a s.heap.size)) (F0 mth 37 ls []) := by
    intro k
    induction k with
      | zero =>
        intro i hi ad H locs ls hag hP hD hS hl
        obtain rfl : i = 12 := by omega
        have hl : lv_has ls 2 [(1, .int 12), (0, .ref a)] := hl
        refine lv_iload_n S.1 S.2.1 dX8_init_37 rfl (lv_at hl 0 rfl) ?_
        refine lv_bipush (v := 12) S.1 S.2.1 dX8_init_38 (by decide) ?_
        refine lv_icmp_ge (tgt := 62) S.1 S.2.1 dX8_init_40 (by decide) (fun cq => ?_) (fun cq => absurd (by decide) cq)
        refine d_tc (ws := ([(a, .inr (8, [.ref q, .ref (a1 (145)), .ref (a2 (153)), .int 0])), (q, .inl (dcy g 3, 12, .inr (.inr (.inr (.inr (fun j => if j < 12 then some (ad (49 + 8 * j)) else none))))))] ++ dWL g ad dI ((([] ++ List.range' (145) 8) ++ List.range' (153) 18) ++ List.range' 49 96))) (ad := (fun j => if j = 47 then a else if j = 48 then q else ad j)) (ids := ([47, 48] ++ ((([] ++ List.range' (145) 8) ++ List.range' (153) 18) ++ List.range' 49 96))) S hr hlk ?_ (fun i h1 h2 => ?_) (if_pos rfl) (by decide +kernel) hP hD hS (Nat.le_of_ble_eq_true rfl) (Nat.le_of_ble_eq_true rfl) dX8_init_62
        · show (_ :: _ :: _) = (_ :: _ :: _)
          refine List.cons_eq_cons.mpr ⟨?_, List.cons_eq_cons.mpr ⟨?_, ?_⟩⟩
          · refine Prod.ext (by simp) ?_
            show _ = dct (dga g _) dI (47)
            rw [dck9 (show dK 47 = 9 by decide +kernel)]
            simp [dmix, dI_at, dI1, (show dK 47 = 9 by decide +kernel), hag 145 (by omega), hag 153 (by omega)]
          · refine Prod.ext rfl ?_
            show _ = dct (dga g _) dI 48
            rw [dck23 (show dK 48 = 23 by decide +kernel), (show dL 48 = 12 by decide +kernel)]
            refine (congrArg (fun f => (.inl (dcy g 3, 12, .inr (.inr (.inr (.inr f)))) : va_E)) (funext fun j => ?_))
            by_cases hj : j < 12
            · rw [if_pos hj, if_pos hj, if_neg (show ¬ 48 + 1 + 8 * j = 47 by omega), if_neg (show ¬ 48 + 1 + 8 * j = 48 by omega)]
            · rw [if_neg hj, if_neg hj]
          · exact dWL_no (xs := [47, 48]) (by decide +kernel) (fun j hj => by simp at hj; rw [if_neg hj.1, if_neg hj.2])
        · have := List.all_eq_true.mp (show ((List.range' 47 124).all fun i => (([47, 48] ++ ((([] ++ List.range' (145) 8) ++ List.range' (153) 18) ++ List.range' 49 96))).contains i) = true by decide +kernel) i (List.mem_range'_1.mpr ⟨h1, h2⟩)
          simpa using this
      | succ k ih =>
        intro i hi ad H locs ls hag hP hD hS hl
        have hlt : i < 12 := by omega
        refine lv_iload_n S.1 S.2.1 dX8_init_37 rfl (lv_at hl 0 rfl) ?_
        refine lv_bipush (v := 12) S.1 S.2.1 dX8_init_38 (by decide) ?_
        refine lv_icmp_ge (tgt := 62) S.1 S.2.1 dX8_init_40 (by decide) (fun cq => absurd cq (by rw [show (12 : Int32) = nI 12 from rfl]; exact nI_ge hlt (by decide))) (fun cq => ?_)
        refine lv_aload_n S.1 S.2.1 dX8_init_43 rfl (lv_at hl 1 rfl) ?_
        refine va_get (D := g.1) (ci := 8) (v := .ref q) (C := RX8) (T := TX8) (N := 4) S.1 S.2.1 S.2.2.2.2 in8 S.2.2.2.1 hE.1 hP 0 rfl rfl 0 (by decide) (S.2.2.2.2 (.fieldLink RX8 11 "DrillField$Show" "parts" "[LDrillField$Part;") (List.mem_of_getElem? (i := 5) rfl)) (fun _ h => h) rfl dX8_init_44 ?_
        refine lv_iload_n S.1 S.2.1 dX8_init_47 rfl (lv_at hl 0 rfl) ?_
        refine d_newo (C := RX5) (T := TX5) (N := 7) (ci := 5) (fs := [.null, .null, .null, .int 0, .int 0, .int 0, .int 0]) (k1 := 7) (k2 := 54) (49 + 8 * i) 8 tyX5 tyX5_ok S in5 (S.2.2.2.2 (.classLink RX8 9 RX5) (List.mem_of_getElem? (i := 4) rfl)) (S.2.2.2.2 (.instantiable RX5 7) (List.mem_of_getElem? (i := 6) rfl)) (S.2.2.2.2 (.initialized RX5) (List.mem_of_getElem? (i := 7) rfl)) hE hAb hP hD hS hA rfl hfsX5 (fun q9 H9 locs9 c9 s9 hp hf => va_runIN (As := []) (rest := [.ref q9, .int (nI i), .ref q]) S (kiX5 l g (c := 49 + 8 * i) (lkX8_init i hlt).1 q9 _) ⟨va_cnB 0 S.2.2.2.2 gX8_init_X5_init_n17 rfl rfl rfl (dnqi_RX8_17 hE) (S.2.2.2.2 (.initialized RX5) (List.mem_of_getElem? (i := 7) rfl)) yniX5 ⟨(Nat.le_of_ble_eq_true rfl), (Nat.le_of_ble_eq_true rfl)⟩, rfl, S.2.2.2.2 (.instanceMethod yX5_init) (List.mem_of_getElem? (i := 13) rfl)⟩ hp rfl rfl hl.1 rfl (lv_room (Nat.le_of_ble_eq_true rfl)) dX8_init_52 hf) (by show _ ≤ 123; omega) (by show _ ≤ 983; omega) dX8_init_48 dX8_init_51 (fun a9 H locs hP hD hS => ?_)
        obtain ⟨hP, hD⟩ := d_mix (dAp_of (lkX8_init i hlt).2) hP hD
        obtain ⟨ad2, had2⟩ : ∃ z, z = dmix ad a9 (49 + 8 * i) 8 := ⟨_, rfl⟩
        rw [← had2] at hP hD
        have e1 : (fun j => if j < i then some (ad (49 + 8 * j)) else none) = (fun j => if j < i then some (ad2 (49 + 8 * j)) else none) := by
          funext j; by_cases hj : j < i
          · rw [if_pos hj, if_pos hj, had2, dmix_out (by omega)]
          · rw [if_neg hj, if_neg hj]
        rw [e1] at hP hD
        have e2 : a9 (49 + 8 * i) = ad2 (49 + 8 * i) := by rw [had2, dmix_in (by omega)]
        rw [e2]
        have e3 : ((([] ++ List.range' (145) 8) ++ List.range' (153) 18) ++ List.range' 49 (8 * i)) ++ List.range' (49 + 8 * i) 8 = (([] ++ List.range' (145) 8) ++ List.range' (153) 18) ++ List.range' 49 (8 * (i + 1)) := by rw [List.append_assoc, Nat.mul_succ, List.range'_append_1]
        rw [e3] at hP hD
        have hv : (ad2 (49 + 8 * i), .inr (5, [.ref (ad2 (49 + 8 * i + 1)), .ref (ad2 (49 + 8 * i + 4)), .ref (ad2 (49 + 8 * i + 7)), .int (dI.1 (49 + 8 * i) 3), .int (dI.1 (49 + 8 * i) 4), .int (dI.1 (49 + 8 * i) 5), .int (dI.1 (49 + 8 * i) 6)])) ∈ dWL g ad2 dI ((([] ++ List.range' (145) 8) ++ List.range' (153) 18) ++ List.range' 49 (8 * (i + 1))) := List.mem_map.mpr ⟨49 + 8 * i, List.mem_append_right _ (List.mem_range'_1.mpr (by omega)), by rw [dck6 (lkX8_init i hlt).1]⟩
        refine d_ast (t0 := 3) (r := (RX5, TX5, 7)) S hE.1 (a := a) (q := q) (tl := dWL g ad2 dI ((([] ++ List.range' (145) 8) ++ List.range' (153) 18) ++ List.range' 49 (8 * (i + 1)))) hP hD hS hv rfl rfl (vp_in_nI hlt (by decide)) dX8_init_55 (fun H locs hP hD hS => ?_)
        rw [nI_clamp (show i < 2 ^ 31 by omega)] at hP hD
        have e4 : va_up (fun j => if j < i then some (ad2 (49 + 8 * j)) else none) i (some (ad2 (49 + 8 * i))) = (fun j => if j < i + 1 then some (ad2 (49 + 8 * j)) else none) := by
          funext j; unfold va_up; by_cases hj : j = i
          · subst hj; rw [if_pos rfl, if_pos (by omega)]
          · rw [if_neg hj]; show (if j < i then some (ad2 (49 + 8 * j)) else none) = _
            by_cases h2 : j < i
            · rw [if_pos h2, if_pos (by omega)]
            · rw [if_neg h2, if_neg (by omega)]
        rw [e4] at hP hD
        refine lv_iinc (v := nI (i + 1)) (lv' := [(1, .int (nI (i + 1))), (0, .ref a)]) S.1 S.2.1 dX8_init_56 hl (k := 0) rfl (nI_1 i) (by decide) rfl (fun ls hl => ?_)
        refine lv_goto (tgt := 37) S.1 S.2.1 dX8_init_59 (by decide) ?_
        refine W.widen (k := 27 + 8 * (i + 1)) (n := 251 + 61 * (i + 1)) (by omega) (by omega) ?_
        exact ih (i + 1) (by omega) ad2 H locs ls (fun j hj => by rw [had2, dmix_out (by omega)]; exact hag j hj) hP hD hS hl
  refine W.widen (k := 27 + 8 * 0) (n := 251 + 61 * 0) (by omega) (by omega) ?_
  have e0 : (fun _ => none) = (fun j => if j < 0 then some ((dmix (dmix (fun _ => 0) a1 (145) 8) a2 (153) 18) (49 + 8 * j)) else none) := by funext j; rw [if_neg (Nat.not_lt_zero j)]
  exact loop 12 0 (by omega) (dmix (dmix (fun _ => 0) a1 (145) 8) a2 (153) 18) H locs ls (fun _ _ => rfl) (by rw [← e0, show 8 * 0 = 0 from rfl, List.range'_zero, List.append_nil]; exact hP) (by rw [← e0, show 8 * 0 = 0 from rfl, List.range'_zero, List.append_nil]; exact hD) hS hl
set_option maxRecDepth 20000 in
theorem ggX10_init_X9_init : GoodIn wsX10_init wsX9_init := goodIn_r _ [14, 15, 2, 3, 16, 17, 18, 30, 31] (by decide +kernel) (by decide +kernel)
set_option maxRecDepth 20000 in
theorem gX10_init_X9_init_n17 : GoodIn wsX10_init (wsX9_init) := ggX10_init_X9_init
set_option maxRecDepth 20000 in
theorem ggX10_init_X2_init : GoodIn wsX10_init wsX2_init := goodIn_r _ [20, 21, 2, 3, 22, 23, 24, 25, 32, 33, 34, 35] (by decide +kernel) (by decide +kernel)
set_option maxRecDepth 20000 in
theorem gX10_init_X2_init_n24 : GoodIn wsX10_init (wsX2_init) := ggX10_init_X2_init
theorem dX10_init_0 : decode cX10_init 0 = .ok (.aload_n 0, 1) := by decide +kernel
theorem dX10_init_1 : decode cX10_init 1 = .ok (.invokespecial 3, 3) := by decide +kernel
theorem dX10_init_4 : decode cX10_init 4 = .ok (.aload_n 0, 1) := by decide +kernel
theorem dX10_init_5 : decode cX10_init 5 = .ok (.bipush 65, 2) := by decide +kernel
theorem dX10_init_7 : decode cX10_init 7 = .ok (.anewarray 9, 3) := by decide +kernel
theorem dX10_init_10 : decode cX10_init 10 = .ok (.putfield 11, 3) := by decide +kernel
theorem dX10_init_13 : decode cX10_init 13 = .ok (.aload_n 0, 1) := by decide +kernel
theorem dX10_init_14 : decode cX10_init 14 = .ok (.new 9, 3) := by decide +kernel
theorem dX10_init_17 : decode cX10_init 17 = .ok (.dup, 1) := by decide +kernel
theorem dX10_init_18 : decode cX10_init 18 = .ok (.invokespecial 17, 3) := by decide +kernel
theorem dX10_init_21 : decode cX10_init 21 = .ok (.putfield 18, 3) := by decide +kernel
theorem dX10_init_24 : decode cX10_init 24 = .ok (.aload_n 0, 1) := by decide +kernel
theorem dX10_init_25 : decode cX10_init 25 = .ok (.new 22, 3) := by decide +kernel
theorem dX10_init_28 : decode cX10_init 28 = .ok (.dup, 1) := by decide +kernel
theorem dX10_init_29 : decode cX10_init 29 = .ok (.invokespecial 24, 3) := by decide +kernel
theorem dX10_init_32 : decode cX10_init 32 = .ok (.putfield 25, 3) := by decide +kernel
theorem dX10_init_35 : decode cX10_init 35 = .ok (.iconst 0, 1) := by decide +kernel
theorem dX10_init_36 : decode cX10_init 36 = .ok (.istore_n 1, 1) := by decide +kernel
theorem dX10_init_37 : decode cX10_init 37 = .ok (.iload_n 1, 1) := by decide +kernel
theorem dX10_init_38 : decode cX10_init 38 = .ok (.bipush 64, 2) := by decide +kernel
theorem dX10_init_40 : decode cX10_init 40 = .ok (.if_icmp .gt 22, 3) := by decide +kernel
theorem dX10_init_43 : decode cX10_init 43 = .ok (.aload_n 0, 1) := by decide +kernel
theorem dX10_init_44 : decode cX10_init 44 = .ok (.getfield 11, 3) := by decide +kernel
theorem dX10_init_47 : decode cX10_init 47 = .ok (.iload_n 1, 1) := by decide +kernel
theorem dX10_init_48 : decode cX10_init 48 = .ok (.new 9, 3) := by decide +kernel
theorem dX10_init_51 : decode cX10_init 51 = .ok (.dup, 1) := by decide +kernel
theorem dX10_init_52 : decode cX10_init 52 = .ok (.invokespecial 17, 3) := by decide +kernel
theorem dX10_init_55 : decode cX10_init 55 = .ok (.aastore, 1) := by decide +kernel
theorem dX10_init_56 : decode cX10_init 56 = .ok (.iinc 1 1, 3) := by decide +kernel
theorem dX10_init_59 : decode cX10_init 59 = .ok (.goto (-22), 3) := by decide +kernel
theorem dX10_init_62 : decode cX10_init 62 = .ok (.return_, 1) := by decide +kernel
theorem lkX10_init : ∀ i, i < 65 → dK (173 + 3 * i) = 10 ∧ dApB ((([] ++ List.range' (368) 3) ++ List.range' (371) 1) ++ List.range' 173 (3 * i)) (173 + 3 * i) 3 = true := by decide +kernel
set_option maxHeartbeats 4000000 in
set_option maxRecDepth 100000 in
theorem kiX10 (l : Launch) (g : dG) : dCMet l g yX10_init wsX10_init 2 40 200 1521 10 [.null, .null, .null, .int 0] dI (171) 201 := by
  refine dcof (cc := cX10_init) (maxL := 2) (by decide) rfl rfl (by decide) ?_
  intro a p e s mth below meth cd S hr hlk hin hE hba hA H ls hP hD hS hl
  have S : CallFix p mth cd cX10_init 2 s #[Value.ref a] wsX10_init RX10 := S
  have hAb : ∀ q, dAc a s.heap.size q → g.2.2.2 ≤ q := fun q h => by rcases h with rfl | h; exact hba; exact Nat.le_trans hE.2.2.2.2.2.1 h
  obtain ⟨locs, hlocs⟩ : ∃ z : List Loc, z = [] := ⟨_, rfl⟩
  rw [← hlocs] at hS ⊢
  have hP : va_P g.1 vwCl ([(a, .inr (10, [.null, .null, .null, .int 0]))] ++ dWL g (fun _ => 0) dI []) H := hP
  have hD : va_D (dAc a s.heap.size) ([(a, .inr (10, [.null, .null, .null, .int 0]))] ++ dWL g (fun _ => 0) dI []) := hD
  have in2 : ∀ w ∈ wsX20, w ∈ wsX10_init := by decide +kernel
  have in9 : ∀ w ∈ wsX90, w ∈ wsX10_init := by decide +kernel
  have in10 : ∀ w ∈ wsX100, w ∈ wsX10_init := by decide +kernel
  refine lv_aload_n S.1 S.2.1 dX10_init_0 rfl (lv_at hl 0 rfl) ?_
  refine W.objInit S.1 S.2.1 S.2.2.2.1 (S.2.2.2.2 (.methodLink RX10 3 objectInit) (List.mem_of_getElem? (i := 1) rfl)) (S.2.2.2.2 (.instanceMethod objectInit) (List.mem_of_getElem? (i := 2) rfl)) (S.2.2.2.2 (.code objectInit ⟨#[0xb1]⟩ 1 none) (List.mem_of_getElem? (i := 3) rfl)) rfl (hl.1.trans S.2.2.1.symm) rfl dX10_init_1 (Nat.le_of_ble_eq_true rfl) (Nat.le_of_ble_eq_true rfl) ?_
  refine W.eq (g2 := F0 mth 4 ls []) rfl ?_
  refine lv_aload_n S.1 S.2.1 dX10_init_4 rfl (lv_at hl 0 rfl) ?_
  refine lv_bipush (v := 65) S.1 S.2.1 dX10_init_5 (by decide) ?_
  refine d_newQ (C := "DrillField$Spots") (N' := 65) (cB := dcy g 4) 4 rfl S (S.2.2.2.2 (.classLink RX10 9 RX9) (List.mem_of_getElem? (i := 4) rfl)) hE.2.2.2.2.2.2.2.2.2.2.1 hE.1 hP hD hS hA (by decide) (by decide) (Nat.le_of_ble_eq_true rfl) (Nat.le_of_ble_eq_true rfl) (Nat.le_of_ble_eq_true rfl) dX10_init_7 (fun q H hP hD hS => ?_)
  have hP : va_P g.1 vwCl ([(a, .inr (10, [.null, .null, .null, .int 0])), (q, .inl (dcy g 4, 65, .inr (.inr (.inr (.inr (fun _ => none))))))] ++ dWL g (fun _ => 0) dI []) H := hP
  have hD : va_D (dAc a s.heap.size) ([(a, .inr (10, [.null, .null, .null, .int 0])), (q, .inl (dcy g 4, 65, .inr (.inr (.inr (.inr (fun _ => none))))))] ++ dWL g (fun _ => 0) dI []) := hD
  refine va_putF (D := g.1) (ci := 10) (v := .ref q) (ty := .array (.object "DrillField$Spots")) (C := RX10) (T := TX10) (N := 4) S.1 S.2.1 S.2.2.2.2 in10 tyX10 tyX10_ok nmX10 S.2.2.2.1 hE.1 hP hD hS 0 rfl rfl 0 (by decide) (S.2.2.2.2 (.fieldLink RX10 11 "DrillField$Watch" "stands" "[LDrillField$Spots;") (List.mem_of_getElem? (i := 5) rfl)) (fun _ h => h) rfl hin rfl (by decide +kernel) rfl rfl (Nat.le_of_ble_eq_true rfl) dX10_init_10 (fun H locs hP hD hS => ?_)
  have hP : va_P g.1 vwCl ([(a, .inr (10, [.ref q, .null, .null, .int 0])), (q, .inl (dcy g 4, 65, .inr (.inr (.inr (.inr (fun _ => none))))))] ++ dWL g (fun _ => 0) dI []) H := hP
  have hD : va_D (dAc a s.heap.size) ([(a, .inr (10, [.ref q, .null, .null, .int 0])), (q, .inl (dcy g 4, 65, .inr (.inr (.inr (.inr (fun _ => none))))))] ++ dWL g (fun _ => 0) dI []) := hD
  refine lv_aload_n S.1 S.2.1 dX10_init_13 rfl (lv_at hl 0 rfl) ?_
  refine d_newo (C := RX9) (T := TX9) (N := 2) (ci := 9) (fs := [.null, .null]) (k1 := 2) (k2 := 20) (368) 3 tyX9 tyX9_ok S in9 (S.2.2.2.2 (.classLink RX10 9 RX9) (List.mem_of_getElem? (i := 4) rfl)) (S.2.2.2.2 (.instantiable RX9 2) (List.mem_of_getElem? (i := 6) rfl)) (S.2.2.2.2 (.initialized RX9) (List.mem_of_getElem? (i := 7) rfl)) hE hAb hP hD hS hA rfl hfsX9 (fun q9 H9 locs9 c9 s9 hp hf => va_runIN (As := []) (rest := [.ref q9, .ref a]) S (kiX9 l g (c := 368) (by decide +kernel) q9 _) ⟨va_cnB 0 S.2.2.2.2 gX10_init_X9_init_n17 rfl rfl rfl (dnqi_RX10_17 hE) (S.2.2.2.2 (.initialized RX9) (List.mem_of_getElem? (i := 7) rfl)) yniX9 ⟨(Nat.le_of_ble_eq_true rfl), (Nat.le_of_ble_eq_true rfl)⟩, rfl, S.2.2.2.2 (.instanceMethod yX9_init) (List.mem_of_getElem? (i := 13) rfl)⟩ hp rfl rfl hl.1 rfl (lv_room (Nat.le_of_ble_eq_true rfl)) dX10_init_18 hf) (Nat.le_of_ble_eq_true rfl) (Nat.le_of_ble_eq_true rfl) dX10_init_14 dX10_init_17 (fun a1 H locs hP hD hS => ?_)
  obtain ⟨hP, hD⟩ := d_mix (dAp_of (by decide +kernel)) hP hD
  refine va_putF (D := g.1) (ci := 10) (v := .ref (a1 (368))) (ty := .object "DrillField$Spots") (C := RX10) (T := TX10) (N := 4) S.1 S.2.1 S.2.2.2.2 in10 tyX10 tyX10_ok nmX10 S.2.2.2.1 hE.1 hP hD hS 0 rfl rfl 1 (by decide) (S.2.2.2.2 (.fieldLink RX10 18 "DrillField$Watch" "spare" "LDrillField$Spots;") (List.mem_of_getElem? (i := 8) rfl)) (fun _ h => h) rfl hin rfl (by decide +kernel) rfl rfl (Nat.le_of_ble_eq_true rfl) dX10_init_21 (fun H locs hP hD hS => ?_)
  have hP : va_P g.1 vwCl ([(a, .inr (10, [.ref q, .ref (a1 (368)), .null, .int 0])), (q, .inl (dcy g 4, 65, .inr (.inr (.inr (.inr (fun _ => none))))))] ++ dWL g (dmix (fun _ => 0) a1 (368) 3) dI ([] ++ List.range' (368) 3)) H := hP
  have hD : va_D (dAc a s.heap.size) ([(a, .inr (10, [.ref q, .ref (a1 (368)), .null, .int 0])), (q, .inl (dcy g 4, 65, .inr (.inr (.inr (.inr (fun _ => none))))))] ++ dWL g (dmix (fun _ => 0) a1 (368) 3) dI ([] ++ List.range' (368) 3)) := hD
  refine lv_aload_n S.1 S.2.1 dX10_init_24 rfl (lv_at hl 0 rfl) ?_
  refine d_newo (C := RX2) (T := TX2) (N := 4) (ci := 2) (fs := [.int 0, .int 0, .int 0, .int 0]) (k1 := 0) (k2 := 0) (371) 1 tyX2 tyX2_ok S in2 (S.2.2.2.2 (.classLink RX10 22 RX2) (List.mem_of_getElem? (i := 9) rfl)) (S.2.2.2.2 (.instantiable RX2 4) (List.mem_of_getElem? (i := 10) rfl)) (S.2.2.2.2 (.initialized RX2) (List.mem_of_getElem? (i := 11) rfl)) hE hAb hP hD hS hA rfl hfsX2 (fun q9 H9 locs9 c9 s9 hp hf => va_runIN (As := []) (rest := [.ref q9, .ref a]) S (kiX2 l g (c := 371) (by decide +kernel) q9 _) ⟨va_cnB 0 S.2.2.2.2 gX10_init_X2_init_n24 rfl rfl rfl (dnqi_RX10_24 hE) (S.2.2.2.2 (.initialized RX2) (List.mem_of_getElem? (i := 11) rfl)) yniX2 ⟨(Nat.le_of_ble_eq_true rfl), (Nat.le_of_ble_eq_true rfl)⟩, rfl, S.2.2.2.2 (.instanceMethod yX2_init) (List.mem_of_getElem? (i := 19) rfl)⟩ hp rfl rfl hl.1 rfl (lv_room (Nat.le_of_ble_eq_true rfl)) dX10_init_29 hf) (Nat.le_of_ble_eq_true rfl) (Nat.le_of_ble_eq_true rfl) dX10_init_25 dX10_init_28 (fun a2 H locs hP hD hS => ?_)
  obtain ⟨hP, hD⟩ := d_mix (dAp_of (by decide +kernel)) hP hD
  refine va_putF (D := g.1) (ci := 10) (v := .ref (a2 (371))) (ty := .object "DrillField$Fault") (C := RX10) (T := TX10) (N := 4) S.1 S.2.1 S.2.2.2.2 in10 tyX10 tyX10_ok nmX10 S.2.2.2.1 hE.1 hP hD hS 0 rfl rfl 2 (by decide) (S.2.2.2.2 (.fieldLink RX10 25 "DrillField$Watch" "found" "LDrillField$Fault;") (List.mem_of_getElem? (i := 12) rfl)) (fun _ h => h) rfl hin rfl (by decide +kernel) rfl rfl (Nat.le_of_ble_eq_true rfl) dX10_init_32 (fun H locs hP hD hS => ?_)
  have hP : va_P g.1 vwCl ([(a, .inr (10, [.ref q, .ref (a1 (368)), .ref (a2 (371)), .int 0])), (q, .inl (dcy g 4, 65, .inr (.inr (.inr (.inr (fun _ => none))))))] ++ dWL g (dmix (dmix (fun _ => 0) a1 (368) 3) a2 (371) 1) dI (([] ++ List.range' (368) 3) ++ List.range' (371) 1)) H := hP
  have hD : va_D (dAc a s.heap.size) ([(a, .inr (10, [.ref q, .ref (a1 (368)), .ref (a2 (371)), .int 0])), (q, .inl (dcy g 4, 65, .inr (.inr (.inr (.inr (fun _ => none))))))] ++ dWL g (dmix (dmix (fun _ => 0) a1 (368) 3) a2 (371) 1) dI (([] ++ List.range' (368) 3) ++ List.range' (371) 1)) := hD
  refine lv_iconst (v := 0) S.1 S.2.1 dX10_init_35 (by decide) ?_
  refine lv_istore_n (lv' := [(1, .int 0), (0, .ref a)]) S.1 S.2.1 dX10_init_36 rfl hl (by decide) rfl (fun ls hl => ?_)
  have loop : ∀ (k i : Nat), i + k = 65 → ∀ (ad : Nat → Nat) (H : Heap) (locs : List Loc) (ls : Array Slot), (∀ j, ¬ (173 ≤ j ∧ j < 368) → ad j = (dmix (dmix (fun _ => 0) a1 (368) 3) a2 (371) 1) j) → va_P g.1 vwCl ([(a, .inr (10, [.ref q, .ref (a1 (368)), .ref (a2 (371)), .int 0])), (q, .inl (dcy g 4, 65, .inr (.inr (.inr (.inr (fun j => if j < i then some (ad (173 + 3 * j)) else none))))))] ++ dWL g ad dI ((([] ++ List.range' (368) 3) ++ List.range' (371) 1) ++ List.range' 173 (3 * i))) H → va_D (dAc a s.heap.size) ([(a, .inr (10, [.ref q, .ref (a1 (368)), .ref (a2 (371)), .int 0])), (q, .inl (dcy g 4, 65, .inr (.inr (.inr (.inr (fun j => if j < i then some (ad (173 + 3 * j)) else none))))))] ++ dWL g ad dI ((([] ++ List.range' (368) 3) ++ List.range' (371) 1) ++ List.range' 173 (3 * i))) → va_S (dAc a s.heap.size) s.heap H locs → lv_has ls 2 [(1, .int (nI i)), (0, .ref a)] → W p l e (headSpec wsX10_init (dCm 200 1521 2 40)).room s mth #[Value.ref a] below meth cd H locs (5 + 3 * i) (91 + 22 * i) (MQ below (dCQ g dI (171) 201 a s.heap.size) #[Value.ref a] s 200 1521 (dAc a s.heap.size)) (F0 mth 37 ls []) := by
    intro k
    induction k with
      | zero =>
        intro i hi ad H locs ls hag hP hD hS hl
        obtain rfl : i = 65 := by omega
        have hl : lv_has ls 2 [(1, .int 65), (0, .ref a)] := hl
        refine lv_iload_n S.1 S.2.1 dX10_init_37 rfl (lv_at hl 0 rfl) ?_
        refine lv_bipush (v := 64) S.1 S.2.1 dX10_init_38 (by decide) ?_
        refine lv_icmp_gt (tgt := 62) S.1 S.2.1 dX10_init_40 (by decide) (fun cq => ?_) (fun cq => absurd (by decide) cq)
        refine d_tc (ws := ([(a, .inr (10, [.ref q, .ref (a1 (368)), .ref (a2 (371)), .int 0])), (q, .inl (dcy g 4, 65, .inr (.inr (.inr (.inr (fun j => if j < 65 then some (ad (173 + 3 * j)) else none))))))] ++ dWL g ad dI ((([] ++ List.range' (368) 3) ++ List.range' (371) 1) ++ List.range' 173 195))) (ad := (fun j => if j = 171 then a else if j = 172 then q else ad j)) (ids := ([171, 172] ++ ((([] ++ List.range' (368) 3) ++ List.range' (371) 1) ++ List.range' 173 195))) S hr hlk ?_ (fun i h1 h2 => ?_) (if_pos rfl) (by decide +kernel) hP hD hS (Nat.le_of_ble_eq_true rfl) (Nat.le_of_ble_eq_true rfl) dX10_init_62
        · show (_ :: _ :: _) = (_ :: _ :: _)
          refine List.cons_eq_cons.mpr ⟨?_, List.cons_eq_cons.mpr ⟨?_, ?_⟩⟩
          · refine Prod.ext (by simp) ?_
            show _ = dct (dga g _) dI (171)
            rw [dck11 (show dK 171 = 11 by decide +kernel)]
            simp [dmix, dI_at, dI1, (show dK 171 = 11 by decide +kernel), hag 368 (by omega), hag 371 (by omega)]
          · refine Prod.ext rfl ?_
            show _ = dct (dga g _) dI 172
            rw [dck24 (show dK 172 = 24 by decide +kernel), (show dL 172 = 65 by decide +kernel)]
            refine (congrArg (fun f => (.inl (dcy g 4, 65, .inr (.inr (.inr (.inr f)))) : va_E)) (funext fun j => ?_))
            by_cases hj : j < 65
            · rw [if_pos hj, if_pos hj, if_neg (show ¬ 172 + 1 + 3 * j = 171 by omega), if_neg (show ¬ 172 + 1 + 3 * j = 172 by omega)]
            · rw [if_neg hj, if_neg hj]
          · exact dWL_no (xs := [171, 172]) (by decide +kernel) (fun j hj => by simp at hj; rw [if_neg hj.1, if_neg hj.2])
        · have := List.all_eq_true.mp (show ((List.range' 171 201).all fun i => (([171, 172] ++ ((([] ++ List.range' (368) 3) ++ List.range' (371) 1) ++ List.range' 173 195))).contains i) = true by decide +kernel) i (List.mem_range'_1.mpr ⟨h1, h2⟩)
          simpa using this
      | succ k ih =>
        intro i hi ad H locs ls hag hP hD hS hl
        have hlt : i < 65 := by omega
        refine lv_iload_n S.1 S.2.1 dX10_init_37 rfl (lv_at hl 0 rfl) ?_
        refine lv_bipush (v := 64) S.1 S.2.1 dX10_init_38 (by decide) ?_
        refine lv_icmp_gt (tgt := 62) S.1 S.2.1 dX10_init_40 (by decide) (fun cq => absurd cq (by rw [show (64 : Int32) = nI 64 from rfl]; exact nI_nlt (by omega) (by decide))) (fun cq => ?_)
        refine lv_aload_n S.1 S.2.1 dX10_init_43 rfl (lv_at hl 1 rfl) ?_
        refine va_get (D := g.1) (ci := 10) (v := .ref q) (C := RX10) (T := TX10) (N := 4) S.1 S.2.1 S.2.2.2.2 in10 S.2.2.2.1 hE.1 hP 0 rfl rfl 0 (by decide) (S.2.2.2.2 (.fieldLink RX10 11 "DrillField$Watch" "stands" "[LDrillField$Spots;") (List.mem_of_getElem? (i := 5) rfl)) (fun _ h => h) rfl dX10_init_44 ?_
        refine lv_iload_n S.1 S.2.1 dX10_init_47 rfl (lv_at hl 0 rfl) ?_
        refine d_newo (C := RX9) (T := TX9) (N := 2) (ci := 9) (fs := [.null, .null]) (k1 := 2) (k2 := 20) (173 + 3 * i) 3 tyX9 tyX9_ok S in9 (S.2.2.2.2 (.classLink RX10 9 RX9) (List.mem_of_getElem? (i := 4) rfl)) (S.2.2.2.2 (.instantiable RX9 2) (List.mem_of_getElem? (i := 6) rfl)) (S.2.2.2.2 (.initialized RX9) (List.mem_of_getElem? (i := 7) rfl)) hE hAb hP hD hS hA rfl hfsX9 (fun q9 H9 locs9 c9 s9 hp hf => va_runIN (As := []) (rest := [.ref q9, .int (nI i), .ref q]) S (kiX9 l g (c := 173 + 3 * i) (lkX10_init i hlt).1 q9 _) ⟨va_cnB 0 S.2.2.2.2 gX10_init_X9_init_n17 rfl rfl rfl (dnqi_RX10_17 hE) (S.2.2.2.2 (.initialized RX9) (List.mem_of_getElem? (i := 7) rfl)) yniX9 ⟨(Nat.le_of_ble_eq_true rfl), (Nat.le_of_ble_eq_true rfl)⟩, rfl, S.2.2.2.2 (.instanceMethod yX9_init) (List.mem_of_getElem? (i := 13) rfl)⟩ hp rfl rfl hl.1 rfl (lv_room (Nat.le_of_ble_eq_true rfl)) dX10_init_52 hf) (by show _ ≤ 200; omega) (by show _ ≤ 1521; omega) dX10_init_48 dX10_init_51 (fun a9 H locs hP hD hS => ?_)
        obtain ⟨hP, hD⟩ := d_mix (dAp_of (lkX10_init i hlt).2) hP hD
        obtain ⟨ad2, had2⟩ : ∃ z, z = dmix ad a9 (173 + 3 * i) 3 := ⟨_, rfl⟩
        rw [← had2] at hP hD
        have e1 : (fun j => if j < i then some (ad (173 + 3 * j)) else none) = (fun j => if j < i then some (ad2 (173 + 3 * j)) else none) := by
          funext j; by_cases hj : j < i
          · rw [if_pos hj, if_pos hj, had2, dmix_out (by omega)]
          · rw [if_neg hj, if_neg hj]
        rw [e1] at hP hD
        have e2 : a9 (173 + 3 * i) = ad2 (173 + 3 * i) := by rw [had2, dmix_in (by omega)]
        rw [e2]
        have e3 : ((([] ++ List.range' (368) 3) ++ List.range' (371) 1) ++ List.range' 173 (3 * i)) ++ List.range' (173 + 3 * i) 3 = (([] ++ List.range' (368) 3) ++ List.range' (371) 1) ++ List.range' 173 (3 * (i + 1)) := by rw [List.append_assoc, Nat.mul_succ, List.range'_append_1]
        rw [e3] at hP hD
        have hv : (ad2 (173 + 3 * i), .inr (9, [.ref (ad2 (173 + 3 * i + 1)), .ref (ad2 (173 + 3 * i + 2))])) ∈ dWL g ad2 dI ((([] ++ List.range' (368) 3) ++ List.range' (371) 1) ++ List.range' 173 (3 * (i + 1))) := List.mem_map.mpr ⟨173 + 3 * i, List.mem_append_right _ (List.mem_range'_1.mpr (by omega)), by rw [dck10 (lkX10_init i hlt).1]⟩
        refine d_ast (t0 := 4) (r := (RX9, TX9, 2)) S hE.1 (a := a) (q := q) (tl := dWL g ad2 dI ((([] ++ List.range' (368) 3) ++ List.range' (371) 1) ++ List.range' 173 (3 * (i + 1)))) hP hD hS hv rfl rfl (vp_in_nI hlt (by decide)) dX10_init_55 (fun H locs hP hD hS => ?_)
        rw [nI_clamp (show i < 2 ^ 31 by omega)] at hP hD
        have e4 : va_up (fun j => if j < i then some (ad2 (173 + 3 * j)) else none) i (some (ad2 (173 + 3 * i))) = (fun j => if j < i + 1 then some (ad2 (173 + 3 * j)) else none) := by
          funext j; unfold va_up; by_cases hj : j = i
          · subst hj; rw [if_pos rfl, if_pos (by omega)]
          · rw [if_neg hj]; show (if j < i then some (ad2 (173 + 3 * j)) else none) = _
            by_cases h2 : j < i
            · rw [if_pos h2, if_pos (by omega)]
            · rw [if_neg h2, if_neg (by omega)]
        rw [e4] at hP hD
        refine lv_iinc (v := nI (i + 1)) (lv' := [(1, .int (nI (i + 1))), (0, .ref a)]) S.1 S.2.1 dX10_init_56 hl (k := 0) rfl (nI_1 i) (by decide) rfl (fun ls hl => ?_)
        refine lv_goto (tgt := 37) S.1 S.2.1 dX10_init_59 (by decide) ?_
        refine W.widen (k := 5 + 3 * (i + 1)) (n := 91 + 22 * (i + 1)) (by omega) (by omega) ?_
        exact ih (i + 1) (by omega) ad2 H locs ls (fun j hj => by rw [had2, dmix_out (by omega)]; exact hag j hj) hP hD hS hl
  refine W.widen (k := 5 + 3 * 0) (n := 91 + 22 * 0) (by omega) (by omega) ?_
  have e0 : (fun _ => none) = (fun j => if j < 0 then some ((dmix (dmix (fun _ => 0) a1 (368) 3) a2 (371) 1) (173 + 3 * j)) else none) := by funext j; rw [if_neg (Nat.not_lt_zero j)]
  exact loop 65 0 (by omega) (dmix (dmix (fun _ => 0) a1 (368) 3) a2 (371) 1) H locs ls (fun _ _ => rfl) (by rw [← e0, show 3 * 0 = 0 from rfl, List.range'_zero, List.append_nil]; exact hP) (by rw [← e0, show 3 * 0 = 0 from rfl, List.range'_zero, List.append_nil]; exact hD) hS hl
set_option maxRecDepth 20000 in
theorem ggX6_init_X9_init : GoodIn wsX6_init wsX9_init := goodIn_r _ [17, 18, 2, 3, 10, 19, 20, 28, 29] (by decide +kernel) (by decide +kernel)
set_option maxRecDepth 20000 in
theorem gX6_init_X9_init_n11 : GoodIn wsX6_init (wsX9_init) := ggX6_init_X9_init
set_option maxRecDepth 20000 in
theorem ggX6_init_X2_init : GoodIn wsX6_init wsX2_init := goodIn_r _ [22, 23, 2, 3, 24, 25, 26, 27, 34, 35, 36, 37] (by decide +kernel) (by decide +kernel)
set_option maxRecDepth 20000 in
theorem gX6_init_X2_init_n28 : GoodIn wsX6_init (wsX2_init) := ggX6_init_X2_init
theorem dX6_init_0 : decode cX6_init 0 = .ok (.aload_n 0, 1) := by decide +kernel
theorem dX6_init_1 : decode cX6_init 1 = .ok (.invokespecial 3, 3) := by decide +kernel
theorem dX6_init_4 : decode cX6_init 4 = .ok (.aload_n 0, 1) := by decide +kernel
theorem dX6_init_5 : decode cX6_init 5 = .ok (.new 9, 3) := by decide +kernel
theorem dX6_init_8 : decode cX6_init 8 = .ok (.dup, 1) := by decide +kernel
theorem dX6_init_9 : decode cX6_init 9 = .ok (.invokespecial 11, 3) := by decide +kernel
theorem dX6_init_12 : decode cX6_init 12 = .ok (.putfield 12, 3) := by decide +kernel
theorem dX6_init_15 : decode cX6_init 15 = .ok (.aload_n 0, 1) := by decide +kernel
theorem dX6_init_16 : decode cX6_init 16 = .ok (.new 9, 3) := by decide +kernel
theorem dX6_init_19 : decode cX6_init 19 = .ok (.dup, 1) := by decide +kernel
theorem dX6_init_20 : decode cX6_init 20 = .ok (.invokespecial 11, 3) := by decide +kernel
theorem dX6_init_23 : decode cX6_init 23 = .ok (.putfield 18, 3) := by decide +kernel
theorem dX6_init_26 : decode cX6_init 26 = .ok (.aload_n 0, 1) := by decide +kernel
theorem dX6_init_27 : decode cX6_init 27 = .ok (.bipush 10, 2) := by decide +kernel
theorem dX6_init_29 : decode cX6_init 29 = .ok (.bipush 10, 2) := by decide +kernel
theorem dX6_init_31 : decode cX6_init 31 = .ok (.multianewarray 21 2, 4) := by decide +kernel
theorem dX6_init_35 : decode cX6_init 35 = .ok (.putfield 23, 3) := by decide +kernel
theorem dX6_init_38 : decode cX6_init 38 = .ok (.aload_n 0, 1) := by decide +kernel
theorem dX6_init_39 : decode cX6_init 39 = .ok (.new 26, 3) := by decide +kernel
theorem dX6_init_42 : decode cX6_init 42 = .ok (.dup, 1) := by decide +kernel
theorem dX6_init_43 : decode cX6_init 43 = .ok (.invokespecial 28, 3) := by decide +kernel
theorem dX6_init_46 : decode cX6_init 46 = .ok (.putfield 29, 3) := by decide +kernel
theorem dX6_init_49 : decode cX6_init 49 = .ok (.return_, 1) := by decide +kernel
theorem mzX6_init_379 : ∀ j, j < 10 → dK (379 + 1 + j) = 20 ∧ dL (379 + 1 + j) = 10 ∧ dI.1 (379 + 1 + j) = fun _ => 0 := by
  intro j hj
  have h := (show ∀ j, j < 10 → (dK (379 + 1 + j) = 20 ∧ dL (379 + 1 + j) = 10) ∧ (decide (dK (379 + 1 + j) = 20 ∨ dK (379 + 1 + j) = 21 ∨ dK (379 + 1 + j) = 22) && decide (379 + 1 + j ≠ 435 ∧ 379 + 1 + j ≠ 1 ∧ 379 + 1 + j ≠ 2 ∧ 379 + 1 + j ≠ 445 ∧ 379 + 1 + j ≠ 4 ∧ 379 + 1 + j ≠ 447 ∧ 379 + 1 + j ≠ 444)) = true by decide +kernel) j hj
  exact ⟨h.1.1, h.1.2, dI_z h.2⟩
set_option maxHeartbeats 4000000 in
set_option maxRecDepth 100000 in
theorem kiX6 (l : Launch) (g : dG) : dCMet l g yX6_init wsX6_init 2 40 18 158 6 [.null, .null, .null, .null] dI (372) 19 := by
  refine dcof (cc := cX6_init) (maxL := 1) (by decide) rfl rfl (by decide) ?_
  intro a p e s mth below meth cd S hr hlk hin hE hba hA H ls hP hD hS hl
  have S : CallFix p mth cd cX6_init 1 s #[Value.ref a] wsX6_init RX6 := S
  have hAb : ∀ q, dAc a s.heap.size q → g.2.2.2 ≤ q := fun q h => by rcases h with rfl | h; exact hba; exact Nat.le_trans hE.2.2.2.2.2.1 h
  obtain ⟨locs, hlocs⟩ : ∃ z : List Loc, z = [] := ⟨_, rfl⟩
  rw [← hlocs] at hS ⊢
  have hP : va_P g.1 vwCl ([(a, .inr (6, [.null, .null, .null, .null]))] ++ dWL g (fun _ => 0) dI []) H := hP
  have hD : va_D (dAc a s.heap.size) ([(a, .inr (6, [.null, .null, .null, .null]))] ++ dWL g (fun _ => 0) dI []) := hD
  have in2 : ∀ w ∈ wsX20, w ∈ wsX6_init := by decide +kernel
  have in6 : ∀ w ∈ wsX60, w ∈ wsX6_init := by decide +kernel
  have in9 : ∀ w ∈ wsX90, w ∈ wsX6_init := by decide +kernel
  refine lv_aload_n S.1 S.2.1 dX6_init_0 rfl (lv_at hl 0 rfl) ?_
  refine W.objInit S.1 S.2.1 S.2.2.2.1 (S.2.2.2.2 (.methodLink RX6 3 objectInit) (List.mem_of_getElem? (i := 1) rfl)) (S.2.2.2.2 (.instanceMethod objectInit) (List.mem_of_getElem? (i := 2) rfl)) (S.2.2.2.2 (.code objectInit ⟨#[0xb1]⟩ 1 none) (List.mem_of_getElem? (i := 3) rfl)) rfl (hl.1.trans S.2.2.1.symm) rfl dX6_init_1 (Nat.le_of_ble_eq_true rfl) (Nat.le_of_ble_eq_true rfl) ?_
  refine W.eq (g2 := F0 mth 4 ls []) rfl ?_
  refine lv_aload_n S.1 S.2.1 dX6_init_4 rfl (lv_at hl 0 rfl) ?_
  refine d_newo (C := RX9) (T := TX9) (N := 2) (ci := 9) (fs := [.null, .null]) (k1 := 2) (k2 := 20) (373) 3 tyX9 tyX9_ok S in9 (S.2.2.2.2 (.classLink RX6 9 RX9) (List.mem_of_getElem? (i := 4) rfl)) (S.2.2.2.2 (.instantiable RX9 2) (List.mem_of_getElem? (i := 5) rfl)) (S.2.2.2.2 (.initialized RX9) (List.mem_of_getElem? (i := 6) rfl)) hE hAb hP hD hS hA rfl hfsX9 (fun q9 H9 locs9 c9 s9 hp hf => va_runIN (As := []) (rest := [.ref q9, .ref a]) S (kiX9 l g (c := 373) (by decide +kernel) q9 _) ⟨va_cnB 0 S.2.2.2.2 gX6_init_X9_init_n11 rfl rfl rfl (dnqi_RX6_11 hE) (S.2.2.2.2 (.initialized RX9) (List.mem_of_getElem? (i := 6) rfl)) yniX9 ⟨(Nat.le_of_ble_eq_true rfl), (Nat.le_of_ble_eq_true rfl)⟩, rfl, S.2.2.2.2 (.instanceMethod yX9_init) (List.mem_of_getElem? (i := 16) rfl)⟩ hp rfl rfl hl.1 rfl (lv_room (Nat.le_of_ble_eq_true rfl)) dX6_init_9 hf) (Nat.le_of_ble_eq_true rfl) (Nat.le_of_ble_eq_true rfl) dX6_init_5 dX6_init_8 (fun a1 H locs hP hD hS => ?_)
  obtain ⟨hP, hD⟩ := d_mix (dAp_of (by decide +kernel)) hP hD
  refine va_putF (D := g.1) (ci := 6) (v := .ref (a1 (373))) (ty := .object "DrillField$Spots") (C := RX6) (T := TX6) (N := 4) S.1 S.2.1 S.2.2.2.2 in6 tyX6 tyX6_ok nmX6 S.2.2.2.1 hE.1 hP hD hS 0 rfl rfl 0 (by decide) (S.2.2.2.2 (.fieldLink RX6 12 "DrillField$Recount" "before" "LDrillField$Spots;") (List.mem_of_getElem? (i := 7) rfl)) (fun _ h => h) rfl hin rfl (by decide +kernel) rfl rfl (Nat.le_of_ble_eq_true rfl) dX6_init_12 (fun H locs hP hD hS => ?_)
  have hP : va_P g.1 vwCl ([(a, .inr (6, [.ref (a1 (373)), .null, .null, .null]))] ++ dWL g (dmix (fun _ => 0) a1 (373) 3) dI ([] ++ List.range' (373) 3)) H := hP
  have hD : va_D (dAc a s.heap.size) ([(a, .inr (6, [.ref (a1 (373)), .null, .null, .null]))] ++ dWL g (dmix (fun _ => 0) a1 (373) 3) dI ([] ++ List.range' (373) 3)) := hD
  refine lv_aload_n S.1 S.2.1 dX6_init_15 rfl (lv_at hl 0 rfl) ?_
  refine d_newo (C := RX9) (T := TX9) (N := 2) (ci := 9) (fs := [.null, .null]) (k1 := 2) (k2 := 20) (376) 3 tyX9 tyX9_ok S in9 (S.2.2.2.2 (.classLink RX6 9 RX9) (List.mem_of_getElem? (i := 4) rfl)) (S.2.2.2.2 (.instantiable RX9 2) (List.mem_of_getElem? (i := 5) rfl)) (S.2.2.2.2 (.initialized RX9) (List.mem_of_getElem? (i := 6) rfl)) hE hAb hP hD hS hA rfl hfsX9 (fun q9 H9 locs9 c9 s9 hp hf => va_runIN (As := []) (rest := [.ref q9, .ref a]) S (kiX9 l g (c := 376) (by decide +kernel) q9 _) ⟨va_cnB 0 S.2.2.2.2 gX6_init_X9_init_n11 rfl rfl rfl (dnqi_RX6_11 hE) (S.2.2.2.2 (.initialized RX9) (List.mem_of_getElem? (i := 6) rfl)) yniX9 ⟨(Nat.le_of_ble_eq_true rfl), (Nat.le_of_ble_eq_true rfl)⟩, rfl, S.2.2.2.2 (.instanceMethod yX9_init) (List.mem_of_getElem? (i := 16) rfl)⟩ hp rfl rfl hl.1 rfl (lv_room (Nat.le_of_ble_eq_true rfl)) dX6_init_20 hf) (Nat.le_of_ble_eq_true rfl) (Nat.le_of_ble_eq_true rfl) dX6_init_16 dX6_init_19 (fun a2 H locs hP hD hS => ?_)
  obtain ⟨hP, hD⟩ := d_mix (dAp_of (by decide +kernel)) hP hD
  refine va_putF (D := g.1) (ci := 6) (v := .ref (a2 (376))) (ty := .object "DrillField$Spots") (C := RX6) (T := TX6) (N := 4) S.1 S.2.1 S.2.2.2.2 in6 tyX6 tyX6_ok nmX6 S.2.2.2.1 hE.1 hP hD hS 0 rfl rfl 1 (by decide) (S.2.2.2.2 (.fieldLink RX6 18 "DrillField$Recount" "now" "LDrillField$Spots;") (List.mem_of_getElem? (i := 8) rfl)) (fun _ h => h) rfl hin rfl (by decide +kernel) rfl rfl (Nat.le_of_ble_eq_true rfl) dX6_init_23 (fun H locs hP hD hS => ?_)
  have hP : va_P g.1 vwCl ([(a, .inr (6, [.ref (a1 (373)), .ref (a2 (376)), .null, .null]))] ++ dWL g (dmix (dmix (fun _ => 0) a1 (373) 3) a2 (376) 3) dI (([] ++ List.range' (373) 3) ++ List.range' (376) 3)) H := hP
  have hD : va_D (dAc a s.heap.size) ([(a, .inr (6, [.ref (a1 (373)), .ref (a2 (376)), .null, .null]))] ++ dWL g (dmix (dmix (fun _ => 0) a1 (373) 3) a2 (376) 3) dI (([] ++ List.range' (373) 3) ++ List.range' (376) 3)) := hD
  refine lv_aload_n S.1 S.2.1 dX6_init_26 rfl (lv_at hl 0 rfl) ?_
  refine lv_bipush (v := 10) S.1 S.2.1 dX6_init_27 (by decide) ?_
  refine lv_bipush (v := 10) S.1 S.2.1 dX6_init_29 (by decide) ?_
  refine d_newAI (mm := dI) (N' := 10) (K' := 10) (379) (by decide +kernel) (by decide +kernel) (fun j hj => mzX6_init_379 j hj) S (S.2.2.2.2 (.classLink RX6 21 "[[I") (List.mem_of_getElem? (i := 9) rfl)) hE.2.2.2.2.2.2.2.2.2.2.2.1 (S.2.2.2.2 (.arrayClass .int) (List.mem_of_getElem? (i := 10) rfl)) hE.1 hP hD hS hA (by decide) (by decide) (by decide) (by decide) (Nat.le_of_ble_eq_true rfl) (Nat.le_of_ble_eq_true rfl) (Nat.le_of_ble_eq_true rfl) (Nat.le_of_ble_eq_true rfl) (Nat.le_of_ble_eq_true rfl) dX6_init_31 (fun a3 H hP hD hS => ?_)
  obtain ⟨hP, hD⟩ := d_mix (dAp_of (by decide +kernel)) hP hD
  refine va_putF (D := g.1) (ci := 6) (v := .ref (a3 (379))) (ty := .array (.array .int)) (C := RX6) (T := TX6) (N := 4) S.1 S.2.1 S.2.2.2.2 in6 tyX6 tyX6_ok nmX6 S.2.2.2.1 hE.1 hP hD hS 0 rfl rfl 2 (by decide) (S.2.2.2.2 (.fieldLink RX6 23 "DrillField$Recount" "squares" "[[I") (List.mem_of_getElem? (i := 11) rfl)) (fun _ h => h) rfl hin rfl (by decide +kernel) rfl rfl (Nat.le_of_ble_eq_true rfl) dX6_init_35 (fun H locs hP hD hS => ?_)
  have hP : va_P g.1 vwCl ([(a, .inr (6, [.ref (a1 (373)), .ref (a2 (376)), .ref (a3 (379)), .null]))] ++ dWL g (dmix (dmix (dmix (fun _ => 0) a1 (373) 3) a2 (376) 3) a3 (379) 11) dI ((([] ++ List.range' (373) 3) ++ List.range' (376) 3) ++ List.range' (379) 11)) H := hP
  have hD : va_D (dAc a s.heap.size) ([(a, .inr (6, [.ref (a1 (373)), .ref (a2 (376)), .ref (a3 (379)), .null]))] ++ dWL g (dmix (dmix (dmix (fun _ => 0) a1 (373) 3) a2 (376) 3) a3 (379) 11) dI ((([] ++ List.range' (373) 3) ++ List.range' (376) 3) ++ List.range' (379) 11)) := hD
  refine lv_aload_n S.1 S.2.1 dX6_init_38 rfl (lv_at hl 0 rfl) ?_
  refine d_newo (C := RX2) (T := TX2) (N := 4) (ci := 2) (fs := [.int 0, .int 0, .int 0, .int 0]) (k1 := 0) (k2 := 0) (390) 1 tyX2 tyX2_ok S in2 (S.2.2.2.2 (.classLink RX6 26 RX2) (List.mem_of_getElem? (i := 12) rfl)) (S.2.2.2.2 (.instantiable RX2 4) (List.mem_of_getElem? (i := 13) rfl)) (S.2.2.2.2 (.initialized RX2) (List.mem_of_getElem? (i := 14) rfl)) hE hAb hP hD hS hA rfl hfsX2 (fun q9 H9 locs9 c9 s9 hp hf => va_runIN (As := []) (rest := [.ref q9, .ref a]) S (kiX2 l g (c := 390) (by decide +kernel) q9 _) ⟨va_cnB 0 S.2.2.2.2 gX6_init_X2_init_n28 rfl rfl rfl (dnqi_RX6_28 hE) (S.2.2.2.2 (.initialized RX2) (List.mem_of_getElem? (i := 14) rfl)) yniX2 ⟨(Nat.le_of_ble_eq_true rfl), (Nat.le_of_ble_eq_true rfl)⟩, rfl, S.2.2.2.2 (.instanceMethod yX2_init) (List.mem_of_getElem? (i := 21) rfl)⟩ hp rfl rfl hl.1 rfl (lv_room (Nat.le_of_ble_eq_true rfl)) dX6_init_43 hf) (Nat.le_of_ble_eq_true rfl) (Nat.le_of_ble_eq_true rfl) dX6_init_39 dX6_init_42 (fun a4 H locs hP hD hS => ?_)
  obtain ⟨hP, hD⟩ := d_mix (dAp_of (by decide +kernel)) hP hD
  refine va_putF (D := g.1) (ci := 6) (v := .ref (a4 (390))) (ty := .object "DrillField$Fault") (C := RX6) (T := TX6) (N := 4) S.1 S.2.1 S.2.2.2.2 in6 tyX6 tyX6_ok nmX6 S.2.2.2.1 hE.1 hP hD hS 0 rfl rfl 3 (by decide) (S.2.2.2.2 (.fieldLink RX6 29 "DrillField$Recount" "found" "LDrillField$Fault;") (List.mem_of_getElem? (i := 15) rfl)) (fun _ h => h) rfl hin rfl (by decide +kernel) rfl rfl (Nat.le_of_ble_eq_true rfl) dX6_init_46 (fun H locs hP hD hS => ?_)
  have hP : va_P g.1 vwCl ([(a, .inr (6, [.ref (a1 (373)), .ref (a2 (376)), .ref (a3 (379)), .ref (a4 (390))]))] ++ dWL g (dmix (dmix (dmix (dmix (fun _ => 0) a1 (373) 3) a2 (376) 3) a3 (379) 11) a4 (390) 1) dI (((([] ++ List.range' (373) 3) ++ List.range' (376) 3) ++ List.range' (379) 11) ++ List.range' (390) 1)) H := hP
  have hD : va_D (dAc a s.heap.size) ([(a, .inr (6, [.ref (a1 (373)), .ref (a2 (376)), .ref (a3 (379)), .ref (a4 (390))]))] ++ dWL g (dmix (dmix (dmix (dmix (fun _ => 0) a1 (373) 3) a2 (376) 3) a3 (379) 11) a4 (390) 1) dI (((([] ++ List.range' (373) 3) ++ List.range' (376) 3) ++ List.range' (379) 11) ++ List.range' (390) 1)) := hD
  refine d_tc (ad := (fun j => if j = 372 then a else (dmix (dmix (dmix (dmix (fun _ => 0) a1 (373) 3) a2 (376) 3) a3 (379) 11) a4 (390) 1) j)) (ids := ([372] ++ (((([] ++ List.range' (373) 3) ++ List.range' (376) 3) ++ List.range' (379) 11) ++ List.range' (390) 1))) S hr hlk ?_ (fun i h1 h2 => ?_) (if_pos rfl) (of_decide_eq_true (by decide +kernel)) hP hD hS (Nat.le_of_ble_eq_true rfl) (Nat.le_of_ble_eq_true rfl) dX6_init_49
  · show (_ :: _) = (_ :: _)
    refine List.cons_eq_cons.mpr ⟨?_, ?_⟩
    · refine Prod.ext (by simp) ?_
      show _ = dct (dga g _) dI (372)
      rw [dck7 (show dK 372 = 7 by decide +kernel)]
      simp [dmix, (show dK 372 = 7 by decide +kernel), dI_at, dI1]
    · exact dWL_no (xs := [372]) (by decide +kernel) (fun j hj => by rw [if_neg (by simpa using hj)])
  · have := List.all_eq_true.mp (show ((List.range' (372) 19).all fun i => (([372] ++ (((([] ++ List.range' (373) 3) ++ List.range' (376) 3) ++ List.range' (379) 11) ++ List.range' (390) 1))).contains i) = true from (by decide +kernel)) i (List.mem_range'_1.mpr ⟨h1, h2⟩)
    simpa using this
set_option maxRecDepth 20000 in
theorem ggX3_init_X9_init : GoodIn wsX3_init wsX9_init := goodIn_r _ [10, 11, 2, 3, 12, 13, 14, 18, 19] (by decide +kernel) (by decide +kernel)
set_option maxRecDepth 20000 in
theorem gX3_init_X9_init_n17 : GoodIn wsX3_init (wsX9_init) := ggX3_init_X9_init
theorem dX3_init_0 : decode cX3_init 0 = .ok (.aload_n 0, 1) := by decide +kernel
theorem dX3_init_1 : decode cX3_init 1 = .ok (.invokespecial 3, 3) := by decide +kernel
theorem dX3_init_4 : decode cX3_init 4 = .ok (.aload_n 0, 1) := by decide +kernel
theorem dX3_init_5 : decode cX3_init 5 = .ok (.bipush 12, 2) := by decide +kernel
theorem dX3_init_7 : decode cX3_init 7 = .ok (.anewarray 9, 3) := by decide +kernel
theorem dX3_init_10 : decode cX3_init 10 = .ok (.putfield 11, 3) := by decide +kernel
theorem dX3_init_13 : decode cX3_init 13 = .ok (.aload_n 0, 1) := by decide +kernel
theorem dX3_init_14 : decode cX3_init 14 = .ok (.new 9, 3) := by decide +kernel
theorem dX3_init_17 : decode cX3_init 17 = .ok (.dup, 1) := by decide +kernel
theorem dX3_init_18 : decode cX3_init 18 = .ok (.invokespecial 17, 3) := by decide +kernel
theorem dX3_init_21 : decode cX3_init 21 = .ok (.putfield 18, 3) := by decide +kernel
theorem dX3_init_24 : decode cX3_init 24 = .ok (.iconst 0, 1) := by decide +kernel
theorem dX3_init_25 : decode cX3_init 25 = .ok (.istore_n 1, 1) := by decide +kernel
theorem dX3_init_26 : decode cX3_init 26 = .ok (.iload_n 1, 1) := by decide +kernel
theorem dX3_init_27 : decode cX3_init 27 = .ok (.bipush 12, 2) := by decide +kernel
theorem dX3_init_29 : decode cX3_init 29 = .ok (.if_icmp .ge 22, 3) := by decide +kernel
theorem dX3_init_32 : decode cX3_init 32 = .ok (.aload_n 0, 1) := by decide +kernel
theorem dX3_init_33 : decode cX3_init 33 = .ok (.getfield 11, 3) := by decide +kernel
theorem dX3_init_36 : decode cX3_init 36 = .ok (.iload_n 1, 1) := by decide +kernel
theorem dX3_init_37 : decode cX3_init 37 = .ok (.new 9, 3) := by decide +kernel
theorem dX3_init_40 : decode cX3_init 40 = .ok (.dup, 1) := by decide +kernel
theorem dX3_init_41 : decode cX3_init 41 = .ok (.invokespecial 17, 3) := by decide +kernel
theorem dX3_init_44 : decode cX3_init 44 = .ok (.aastore, 1) := by decide +kernel
theorem dX3_init_45 : decode cX3_init 45 = .ok (.iinc 1 1, 3) := by decide +kernel
theorem dX3_init_48 : decode cX3_init 48 = .ok (.goto (-22), 3) := by decide +kernel
theorem dX3_init_51 : decode cX3_init 51 = .ok (.return_, 1) := by decide +kernel
theorem lkX3_init : ∀ i, i < 12 → dK (396 + 3 * i) = 10 ∧ dApB (([] ++ List.range' (432) 3) ++ List.range' 396 (3 * i)) (396 + 3 * i) 3 = true := by decide +kernel
set_option maxHeartbeats 4000000 in
set_option maxRecDepth 100000 in
theorem kiX3 (l : Launch) (g : dG) : dCMet l g yX3_init wsX3_init 2 40 40 298 3 [.null, .null, .int 0] dI (394) 41 := by
  refine dcof (cc := cX3_init) (maxL := 2) (by decide) rfl rfl (by decide) ?_
  intro a p e s mth below meth cd S hr hlk hin hE hba hA H ls hP hD hS hl
  have S : CallFix p mth cd cX3_init 2 s #[Value.ref a] wsX3_init RX3 := S
  have hAb : ∀ q, dAc a s.heap.size q → g.2.2.2 ≤ q := fun q h => by rcases h with rfl | h; exact hba; exact Nat.le_trans hE.2.2.2.2.2.1 h
  obtain ⟨locs, hlocs⟩ : ∃ z : List Loc, z = [] := ⟨_, rfl⟩
  rw [← hlocs] at hS ⊢
  have hP : va_P g.1 vwCl ([(a, .inr (3, [.null, .null, .int 0]))] ++ dWL g (fun _ => 0) dI []) H := hP
  have hD : va_D (dAc a s.heap.size) ([(a, .inr (3, [.null, .null, .int 0]))] ++ dWL g (fun _ => 0) dI []) := hD
  have in3 : ∀ w ∈ wsX30, w ∈ wsX3_init := by decide +kernel
  have in9 : ∀ w ∈ wsX90, w ∈ wsX3_init := by decide +kernel
  refine lv_aload_n S.1 S.2.1 dX3_init_0 rfl (lv_at hl 0 rfl) ?_
  refine W.objInit S.1 S.2.1 S.2.2.2.1 (S.2.2.2.2 (.methodLink RX3 3 objectInit) (List.mem_of_getElem? (i := 1) rfl)) (S.2.2.2.2 (.instanceMethod objectInit) (List.mem_of_getElem? (i := 2) rfl)) (S.2.2.2.2 (.code objectInit ⟨#[0xb1]⟩ 1 none) (List.mem_of_getElem? (i := 3) rfl)) rfl (hl.1.trans S.2.2.1.symm) rfl dX3_init_1 (Nat.le_of_ble_eq_true rfl) (Nat.le_of_ble_eq_true rfl) ?_
  refine W.eq (g2 := F0 mth 4 ls []) rfl ?_
  refine lv_aload_n S.1 S.2.1 dX3_init_4 rfl (lv_at hl 0 rfl) ?_
  refine lv_bipush (v := 12) S.1 S.2.1 dX3_init_5 (by decide) ?_
  refine d_newQ (C := "DrillField$Spots") (N' := 12) (cB := dcy g 4) 4 rfl S (S.2.2.2.2 (.classLink RX3 9 RX9) (List.mem_of_getElem? (i := 4) rfl)) hE.2.2.2.2.2.2.2.2.2.2.1 hE.1 hP hD hS hA (by decide) (by decide) (Nat.le_of_ble_eq_true rfl) (Nat.le_of_ble_eq_true rfl) (Nat.le_of_ble_eq_true rfl) dX3_init_7 (fun q H hP hD hS => ?_)
  have hP : va_P g.1 vwCl ([(a, .inr (3, [.null, .null, .int 0])), (q, .inl (dcy g 4, 12, .inr (.inr (.inr (.inr (fun _ => none))))))] ++ dWL g (fun _ => 0) dI []) H := hP
  have hD : va_D (dAc a s.heap.size) ([(a, .inr (3, [.null, .null, .int 0])), (q, .inl (dcy g 4, 12, .inr (.inr (.inr (.inr (fun _ => none))))))] ++ dWL g (fun _ => 0) dI []) := hD
  refine va_putF (D := g.1) (ci := 3) (v := .ref q) (ty := .array (.object "DrillField$Spots")) (C := RX3) (T := TX3) (N := 3) S.1 S.2.1 S.2.2.2.2 in3 tyX3 tyX3_ok nmX3 S.2.2.2.1 hE.1 hP hD hS 0 rfl rfl 0 (by decide) (S.2.2.2.2 (.fieldLink RX3 11 "DrillField$Pages" "published" "[LDrillField$Spots;") (List.mem_of_getElem? (i := 5) rfl)) (fun _ h => h) rfl hin rfl (by decide +kernel) rfl rfl (Nat.le_of_ble_eq_true rfl) dX3_init_10 (fun H locs hP hD hS => ?_)
  have hP : va_P g.1 vwCl ([(a, .inr (3, [.ref q, .null, .int 0])), (q, .inl (dcy g 4, 12, .inr (.inr (.inr (.inr (fun _ => none))))))] ++ dWL g (fun _ => 0) dI []) H := hP
  have hD : va_D (dAc a s.heap.size) ([(a, .inr (3, [.ref q, .null, .int 0])), (q, .inl (dcy g 4, 12, .inr (.inr (.inr (.inr (fun _ => none))))))] ++ dWL g (fun _ => 0) dI []) := hD
  refine lv_aload_n S.1 S.2.1 dX3_init_13 rfl (lv_at hl 0 rfl) ?_
  refine d_newo (C := RX9) (T := TX9) (N := 2) (ci := 9) (fs := [.null, .null]) (k1 := 2) (k2 := 20) (432) 3 tyX9 tyX9_ok S in9 (S.2.2.2.2 (.classLink RX3 9 RX9) (List.mem_of_getElem? (i := 4) rfl)) (S.2.2.2.2 (.instantiable RX9 2) (List.mem_of_getElem? (i := 6) rfl)) (S.2.2.2.2 (.initialized RX9) (List.mem_of_getElem? (i := 7) rfl)) hE hAb hP hD hS hA rfl hfsX9 (fun q9 H9 locs9 c9 s9 hp hf => va_runIN (As := []) (rest := [.ref q9, .ref a]) S (kiX9 l g (c := 432) (by decide +kernel) q9 _) ⟨va_cnB 0 S.2.2.2.2 gX3_init_X9_init_n17 rfl rfl rfl (dnqi_RX3_17 hE) (S.2.2.2.2 (.initialized RX9) (List.mem_of_getElem? (i := 7) rfl)) yniX9 ⟨(Nat.le_of_ble_eq_true rfl), (Nat.le_of_ble_eq_true rfl)⟩, rfl, S.2.2.2.2 (.instanceMethod yX9_init) (List.mem_of_getElem? (i := 9) rfl)⟩ hp rfl rfl hl.1 rfl (lv_room (Nat.le_of_ble_eq_true rfl)) dX3_init_18 hf) (Nat.le_of_ble_eq_true rfl) (Nat.le_of_ble_eq_true rfl) dX3_init_14 dX3_init_17 (fun a1 H locs hP hD hS => ?_)
  obtain ⟨hP, hD⟩ := d_mix (dAp_of (by decide +kernel)) hP hD
  refine va_putF (D := g.1) (ci := 3) (v := .ref (a1 (432))) (ty := .object "DrillField$Spots") (C := RX3) (T := TX3) (N := 3) S.1 S.2.1 S.2.2.2.2 in3 tyX3 tyX3_ok nmX3 S.2.2.2.1 hE.1 hP hD hS 0 rfl rfl 1 (by decide) (S.2.2.2.2 (.fieldLink RX3 18 "DrillField$Pages" "spare" "LDrillField$Spots;") (List.mem_of_getElem? (i := 8) rfl)) (fun _ h => h) rfl hin rfl (by decide +kernel) rfl rfl (Nat.le_of_ble_eq_true rfl) dX3_init_21 (fun H locs hP hD hS => ?_)
  have hP : va_P g.1 vwCl ([(a, .inr (3, [.ref q, .ref (a1 (432)), .int 0])), (q, .inl (dcy g 4, 12, .inr (.inr (.inr (.inr (fun _ => none))))))] ++ dWL g (dmix (fun _ => 0) a1 (432) 3) dI ([] ++ List.range' (432) 3)) H := hP
  have hD : va_D (dAc a s.heap.size) ([(a, .inr (3, [.ref q, .ref (a1 (432)), .int 0])), (q, .inl (dcy g 4, 12, .inr (.inr (.inr (.inr (fun _ => none))))))] ++ dWL g (dmix (fun _ => 0) a1 (432) 3) dI ([] ++ List.range' (432) 3)) := hD
  refine lv_iconst (v := 0) S.1 S.2.1 dX3_init_24 (by decide) ?_
  refine lv_istore_n (lv' := [(1, .int 0), (0, .ref a)]) S.1 S.2.1 dX3_init_25 rfl hl (by decide) rfl (fun ls hl => ?_)
  have loop : ∀ (k i : Nat), i + k = 12 → ∀ (ad : Nat → Nat) (H : Heap) (locs : List Loc) (ls : Array Slot), (∀ j, ¬ (396 ≤ j ∧ j < 432) → ad j = (dmix (fun _ => 0) a1 (432) 3) j) → va_P g.1 vwCl ([(a, .inr (3, [.ref q, .ref (a1 (432)), .int 0])), (q, .inl (dcy g 4, 12, .inr (.inr (.inr (.inr (fun j => if j < i then some (ad (396 + 3 * j)) else none))))))] ++ dWL g ad dI (([] ++ List.range' (432) 3) ++ List.range' 396 (3 * i))) H → va_D (dAc a s.heap.size) ([(a, .inr (3, [.ref q, .ref (a1 (432)), .int 0])), (q, .inl (dcy g 4, 12, .inr (.inr (.inr (.inr (fun j => if j < i then some (ad (396 + 3 * j)) else none))))))] ++ dWL g ad dI (([] ++ List.range' (432) 3) ++ List.range' 396 (3 * i))) → va_S (dAc a s.heap.size) s.heap H locs → lv_has ls 2 [(1, .int (nI i)), (0, .ref a)] → W p l e (headSpec wsX3_init (dCm 40 298 2 40)).room s mth #[Value.ref a] below meth cd H locs (4 + 3 * i) (34 + 22 * i) (MQ below (dCQ g dI (394) 41 a s.heap.size) #[Value.ref a] s 40 298 (dAc a s.heap.size)) (F0 mth 26 ls []) := by
    intro k
    induction k with
      | zero =>
        intro i hi ad H locs ls hag hP hD hS hl
        obtain rfl : i = 12 := by omega
        have hl : lv_has ls 2 [(1, .int 12), (0, .ref a)] := hl
        refine lv_iload_n S.1 S.2.1 dX3_init_26 rfl (lv_at hl 0 rfl) ?_
        refine lv_bipush (v := 12) S.1 S.2.1 dX3_init_27 (by decide) ?_
        refine lv_icmp_ge (tgt := 51) S.1 S.2.1 dX3_init_29 (by decide) (fun cq => ?_) (fun cq => absurd (by decide) cq)
        refine d_tc (ws := ([(a, .inr (3, [.ref q, .ref (a1 (432)), .int 0])), (q, .inl (dcy g 4, 12, .inr (.inr (.inr (.inr (fun j => if j < 12 then some (ad (396 + 3 * j)) else none))))))] ++ dWL g ad dI (([] ++ List.range' (432) 3) ++ List.range' 396 36))) (ad := (fun j => if j = 394 then a else if j = 395 then q else ad j)) (ids := ([394, 395] ++ (([] ++ List.range' (432) 3) ++ List.range' 396 36))) S hr hlk ?_ (fun i h1 h2 => ?_) (if_pos rfl) (by decide +kernel) hP hD hS (Nat.le_of_ble_eq_true rfl) (Nat.le_of_ble_eq_true rfl) dX3_init_51
        · show (_ :: _ :: _) = (_ :: _ :: _)
          refine List.cons_eq_cons.mpr ⟨?_, List.cons_eq_cons.mpr ⟨?_, ?_⟩⟩
          · refine Prod.ext (by simp) ?_
            show _ = dct (dga g _) dI (394)
            rw [dck4 (show dK 394 = 4 by decide +kernel)]
            simp [dmix, dI_at, dI1, (show dK 394 = 4 by decide +kernel), hag 432 (by omega)]
          · refine Prod.ext rfl ?_
            show _ = dct (dga g _) dI 395
            rw [dck24 (show dK 395 = 24 by decide +kernel), (show dL 395 = 12 by decide +kernel)]
            refine (congrArg (fun f => (.inl (dcy g 4, 12, .inr (.inr (.inr (.inr f)))) : va_E)) (funext fun j => ?_))
            by_cases hj : j < 12
            · rw [if_pos hj, if_pos hj, if_neg (show ¬ 395 + 1 + 3 * j = 394 by omega), if_neg (show ¬ 395 + 1 + 3 * j = 395 by omega)]
            · rw [if_neg hj, if_neg hj]
          · exact dWL_no (xs := [394, 395]) (by decide +kernel) (fun j hj => by simp at hj; rw [if_neg hj.1, if_neg hj.2])
        · have := List.all_eq_true.mp (show ((List.range' 394 41).all fun i => (([394, 395] ++ (([] ++ List.range' (432) 3) ++ List.range' 396 36))).contains i) = true by decide +kernel) i (List.mem_range'_1.mpr ⟨h1, h2⟩)
          simpa using this
      | succ k ih =>
        intro i hi ad H locs ls hag hP hD hS hl
        have hlt : i < 12 := by omega
        refine lv_iload_n S.1 S.2.1 dX3_init_26 rfl (lv_at hl 0 rfl) ?_
        refine lv_bipush (v := 12) S.1 S.2.1 dX3_init_27 (by decide) ?_
        refine lv_icmp_ge (tgt := 51) S.1 S.2.1 dX3_init_29 (by decide) (fun cq => absurd cq (by rw [show (12 : Int32) = nI 12 from rfl]; exact nI_ge hlt (by decide))) (fun cq => ?_)
        refine lv_aload_n S.1 S.2.1 dX3_init_32 rfl (lv_at hl 1 rfl) ?_
        refine va_get (D := g.1) (ci := 3) (v := .ref q) (C := RX3) (T := TX3) (N := 3) S.1 S.2.1 S.2.2.2.2 in3 S.2.2.2.1 hE.1 hP 0 rfl rfl 0 (by decide) (S.2.2.2.2 (.fieldLink RX3 11 "DrillField$Pages" "published" "[LDrillField$Spots;") (List.mem_of_getElem? (i := 5) rfl)) (fun _ h => h) rfl dX3_init_33 ?_
        refine lv_iload_n S.1 S.2.1 dX3_init_36 rfl (lv_at hl 0 rfl) ?_
        refine d_newo (C := RX9) (T := TX9) (N := 2) (ci := 9) (fs := [.null, .null]) (k1 := 2) (k2 := 20) (396 + 3 * i) 3 tyX9 tyX9_ok S in9 (S.2.2.2.2 (.classLink RX3 9 RX9) (List.mem_of_getElem? (i := 4) rfl)) (S.2.2.2.2 (.instantiable RX9 2) (List.mem_of_getElem? (i := 6) rfl)) (S.2.2.2.2 (.initialized RX9) (List.mem_of_getElem? (i := 7) rfl)) hE hAb hP hD hS hA rfl hfsX9 (fun q9 H9 locs9 c9 s9 hp hf => va_runIN (As := []) (rest := [.ref q9, .int (nI i), .ref q]) S (kiX9 l g (c := 396 + 3 * i) (lkX3_init i hlt).1 q9 _) ⟨va_cnB 0 S.2.2.2.2 gX3_init_X9_init_n17 rfl rfl rfl (dnqi_RX3_17 hE) (S.2.2.2.2 (.initialized RX9) (List.mem_of_getElem? (i := 7) rfl)) yniX9 ⟨(Nat.le_of_ble_eq_true rfl), (Nat.le_of_ble_eq_true rfl)⟩, rfl, S.2.2.2.2 (.instanceMethod yX9_init) (List.mem_of_getElem? (i := 9) rfl)⟩ hp rfl rfl hl.1 rfl (lv_room (Nat.le_of_ble_eq_true rfl)) dX3_init_41 hf) (by show _ ≤ 40; omega) (by show _ ≤ 298; omega) dX3_init_37 dX3_init_40 (fun a9 H locs hP hD hS => ?_)
        obtain ⟨hP, hD⟩ := d_mix (dAp_of (lkX3_init i hlt).2) hP hD
        obtain ⟨ad2, had2⟩ : ∃ z, z = dmix ad a9 (396 + 3 * i) 3 := ⟨_, rfl⟩
        rw [← had2] at hP hD
        have e1 : (fun j => if j < i then some (ad (396 + 3 * j)) else none) = (fun j => if j < i then some (ad2 (396 + 3 * j)) else none) := by
          funext j; by_cases hj : j < i
          · rw [if_pos hj, if_pos hj, had2, dmix_out (by omega)]
          · rw [if_neg hj, if_neg hj]
        rw [e1] at hP hD
        have e2 : a9 (396 + 3 * i) = ad2 (396 + 3 * i) := by rw [had2, dmix_in (by omega)]
        rw [e2]
        have e3 : (([] ++ List.range' (432) 3) ++ List.range' 396 (3 * i)) ++ List.range' (396 + 3 * i) 3 = ([] ++ List.range' (432) 3) ++ List.range' 396 (3 * (i + 1)) := by rw [List.append_assoc, Nat.mul_succ, List.range'_append_1]
        rw [e3] at hP hD
        have hv : (ad2 (396 + 3 * i), .inr (9, [.ref (ad2 (396 + 3 * i + 1)), .ref (ad2 (396 + 3 * i + 2))])) ∈ dWL g ad2 dI (([] ++ List.range' (432) 3) ++ List.range' 396 (3 * (i + 1))) := List.mem_map.mpr ⟨396 + 3 * i, List.mem_append_right _ (List.mem_range'_1.mpr (by omega)), by rw [dck10 (lkX3_init i hlt).1]⟩
        refine d_ast (t0 := 4) (r := (RX9, TX9, 2)) S hE.1 (a := a) (q := q) (tl := dWL g ad2 dI (([] ++ List.range' (432) 3) ++ List.range' 396 (3 * (i + 1)))) hP hD hS hv rfl rfl (vp_in_nI hlt (by decide)) dX3_init_44 (fun H locs hP hD hS => ?_)
        rw [nI_clamp (show i < 2 ^ 31 by omega)] at hP hD
        have e4 : va_up (fun j => if j < i then some (ad2 (396 + 3 * j)) else none) i (some (ad2 (396 + 3 * i))) = (fun j => if j < i + 1 then some (ad2 (396 + 3 * j)) else none) := by
          funext j; unfold va_up; by_cases hj : j = i
          · subst hj; rw [if_pos rfl, if_pos (by omega)]
          · rw [if_neg hj]; show (if j < i then some (ad2 (396 + 3 * j)) else none) = _
            by_cases h2 : j < i
            · rw [if_pos h2, if_pos (by omega)]
            · rw [if_neg h2, if_neg (by omega)]
        rw [e4] at hP hD
        refine lv_iinc (v := nI (i + 1)) (lv' := [(1, .int (nI (i + 1))), (0, .ref a)]) S.1 S.2.1 dX3_init_45 hl (k := 0) rfl (nI_1 i) (by decide) rfl (fun ls hl => ?_)
        refine lv_goto (tgt := 26) S.1 S.2.1 dX3_init_48 (by decide) ?_
        refine W.widen (k := 4 + 3 * (i + 1)) (n := 34 + 22 * (i + 1)) (by omega) (by omega) ?_
        exact ih (i + 1) (by omega) ad2 H locs ls (fun j hj => by rw [had2, dmix_out (by omega)]; exact hag j hj) hP hD hS hl
  refine W.widen (k := 4 + 3 * 0) (n := 34 + 22 * 0) (by omega) (by omega) ?_
  have e0 : (fun _ => none) = (fun j => if j < 0 then some ((dmix (fun _ => 0) a1 (432) 3) (396 + 3 * j)) else none) := by funext j; rw [if_neg (Nat.not_lt_zero j)]
  exact loop 12 0 (by omega) (dmix (fun _ => 0) a1 (432) 3) H locs ls (fun _ _ => rfl) (by rw [← e0, show 3 * 0 = 0 from rfl, List.range'_zero, List.append_nil]; exact hP) (by rw [← e0, show 3 * 0 = 0 from rfl, List.range'_zero, List.append_nil]; exact hD) hS hl
theorem dX0_init_0 : decode cX0_init 0 = .ok (.aload_n 0, 1) := by decide +kernel
theorem dX0_init_1 : decode cX0_init 1 = .ok (.invokespecial 3, 3) := by decide +kernel
theorem dX0_init_4 : decode cX0_init 4 = .ok (.aload_n 0, 1) := by decide +kernel
theorem dX0_init_5 : decode cX0_init 5 = .ok (.bipush 6, 2) := by decide +kernel
theorem dX0_init_7 : decode cX0_init 7 = .ok (.iconst 4, 1) := by decide +kernel
theorem dX0_init_8 : decode cX0_init 8 = .ok (.multianewarray 9 2, 4) := by decide +kernel
theorem dX0_init_12 : decode cX0_init 12 = .ok (.putfield 11, 3) := by decide +kernel
theorem dX0_init_15 : decode cX0_init 15 = .ok (.aload_n 0, 1) := by decide +kernel
theorem dX0_init_16 : decode cX0_init 16 = .ok (.bipush 6, 2) := by decide +kernel
theorem dX0_init_18 : decode cX0_init 18 = .ok (.newarray .int, 2) := by decide +kernel
theorem dX0_init_20 : decode cX0_init 20 = .ok (.putfield 16, 3) := by decide +kernel
theorem dX0_init_23 : decode cX0_init 23 = .ok (.aload_n 0, 1) := by decide +kernel
theorem dX0_init_24 : decode cX0_init 24 = .ok (.sipush 9999, 3) := by decide +kernel
theorem dX0_init_27 : decode cX0_init 27 = .ok (.putfield 20, 3) := by decide +kernel
theorem dX0_init_30 : decode cX0_init 30 = .ok (.return_, 1) := by decide +kernel
theorem mzX0_init_436 : ∀ j, j < 6 → dK (436 + 1 + j) = 20 ∧ dL (436 + 1 + j) = 4 ∧ dI.1 (436 + 1 + j) = fun _ => 0 := by
  intro j hj
  have h := (show ∀ j, j < 6 → (dK (436 + 1 + j) = 20 ∧ dL (436 + 1 + j) = 4) ∧ (decide (dK (436 + 1 + j) = 20 ∨ dK (436 + 1 + j) = 21 ∨ dK (436 + 1 + j) = 22) && decide (436 + 1 + j ≠ 435 ∧ 436 + 1 + j ≠ 1 ∧ 436 + 1 + j ≠ 2 ∧ 436 + 1 + j ≠ 445 ∧ 436 + 1 + j ≠ 4 ∧ 436 + 1 + j ≠ 447 ∧ 436 + 1 + j ≠ 444)) = true by decide +kernel) j hj
  exact ⟨h.1.1, h.1.2, dI_z h.2⟩
set_option maxHeartbeats 4000000 in
set_option maxRecDepth 100000 in
theorem kiX0 (l : Launch) (g : dG) : dCMet l g yX0_init wsX0_init 1 20 8 36 0 [.null, .null, .int 0, .int 0] dI (435) 9 := by
  refine dcof (cc := cX0_init) (maxL := 1) (by decide) rfl rfl (by decide) ?_
  intro a p e s mth below meth cd S hr hlk hin hE hba hA H ls hP hD hS hl
  have S : CallFix p mth cd cX0_init 1 s #[Value.ref a] wsX0_init RX0 := S
  have hAb : ∀ q, dAc a s.heap.size q → g.2.2.2 ≤ q := fun q h => by rcases h with rfl | h; exact hba; exact Nat.le_trans hE.2.2.2.2.2.1 h
  obtain ⟨locs, hlocs⟩ : ∃ z : List Loc, z = [] := ⟨_, rfl⟩
  rw [← hlocs] at hS ⊢
  have hP : va_P g.1 vwCl ([(a, .inr (0, [.null, .null, .int 0, .int 0]))] ++ dWL g (fun _ => 0) dI []) H := hP
  have hD : va_D (dAc a s.heap.size) ([(a, .inr (0, [.null, .null, .int 0, .int 0]))] ++ dWL g (fun _ => 0) dI []) := hD
  have in0 : ∀ w ∈ wsX00, w ∈ wsX0_init := by decide +kernel
  refine lv_aload_n S.1 S.2.1 dX0_init_0 rfl (lv_at hl 0 rfl) ?_
  refine W.objInit S.1 S.2.1 S.2.2.2.1 (S.2.2.2.2 (.methodLink RX0 3 objectInit) (List.mem_of_getElem? (i := 1) rfl)) (S.2.2.2.2 (.instanceMethod objectInit) (List.mem_of_getElem? (i := 2) rfl)) (S.2.2.2.2 (.code objectInit ⟨#[0xb1]⟩ 1 none) (List.mem_of_getElem? (i := 3) rfl)) rfl (hl.1.trans S.2.2.1.symm) rfl dX0_init_1 (Nat.le_of_ble_eq_true rfl) (Nat.le_of_ble_eq_true rfl) ?_
  refine W.eq (g2 := F0 mth 4 ls []) rfl ?_
  refine lv_aload_n S.1 S.2.1 dX0_init_4 rfl (lv_at hl 0 rfl) ?_
  refine lv_bipush (v := 6) S.1 S.2.1 dX0_init_5 (by decide) ?_
  refine lv_iconst (v := 4) S.1 S.2.1 dX0_init_7 (by decide) ?_
  refine d_newAI (mm := dI) (N' := 6) (K' := 4) (436) (by decide +kernel) (by decide +kernel) (fun j hj => mzX0_init_436 j hj) S (S.2.2.2.2 (.classLink RX0 9 "[[I") (List.mem_of_getElem? (i := 4) rfl)) hE.2.2.2.2.2.2.2.2.2.2.2.1 (S.2.2.2.2 (.arrayClass .int) (List.mem_of_getElem? (i := 5) rfl)) hE.1 hP hD hS hA (by decide) (by decide) (by decide) (by decide) (Nat.le_of_ble_eq_true rfl) (Nat.le_of_ble_eq_true rfl) (Nat.le_of_ble_eq_true rfl) (Nat.le_of_ble_eq_true rfl) (Nat.le_of_ble_eq_true rfl) dX0_init_8 (fun a1 H hP hD hS => ?_)
  obtain ⟨hP, hD⟩ := d_mix (dAp_of (by decide +kernel)) hP hD
  refine va_putF (D := g.1) (ci := 0) (v := .ref (a1 (436))) (ty := .array (.array .int)) (C := RX0) (T := TX0) (N := 4) S.1 S.2.1 S.2.2.2.2 in0 tyX0 tyX0_ok nmX0 S.2.2.2.1 hE.1 hP hD hS 0 rfl rfl 0 (by decide) (S.2.2.2.2 (.fieldLink RX0 11 "DrillField$Contest" "captions" "[[I") (List.mem_of_getElem? (i := 6) rfl)) (fun _ h => h) rfl hin rfl (by decide +kernel) rfl rfl (Nat.le_of_ble_eq_true rfl) dX0_init_12 (fun H locs hP hD hS => ?_)
  have hP : va_P g.1 vwCl ([(a, .inr (0, [.ref (a1 (436)), .null, .int 0, .int 0]))] ++ dWL g (dmix (fun _ => 0) a1 (436) 7) dI ([] ++ List.range' (436) 7)) H := hP
  have hD : va_D (dAc a s.heap.size) ([(a, .inr (0, [.ref (a1 (436)), .null, .int 0, .int 0]))] ++ dWL g (dmix (fun _ => 0) a1 (436) 7) dI ([] ++ List.range' (436) 7)) := hD
  refine lv_aload_n S.1 S.2.1 dX0_init_15 rfl (lv_at hl 0 rfl) ?_
  refine lv_bipush (v := 6) S.1 S.2.1 dX0_init_16 (by decide) ?_
  refine d_newI (mm := dI) (N' := 6) (443) (by decide +kernel) (by decide +kernel) (dI_z (by decide +kernel)) S (S.2.2.2.2 (.arrayClass .int) (List.mem_of_getElem? (i := 5) rfl)) hE.1 hP hD hS hA (by decide) (by decide) (Nat.le_of_ble_eq_true rfl) (Nat.le_of_ble_eq_true rfl) (Nat.le_of_ble_eq_true rfl) dX0_init_18 (fun a2 H hP hD hS => ?_)
  obtain ⟨hP, hD⟩ := d_mix (dAp_of (by decide +kernel)) hP hD
  refine va_putF (D := g.1) (ci := 0) (v := .ref (a2 (443))) (ty := .array .int) (C := RX0) (T := TX0) (N := 4) S.1 S.2.1 S.2.2.2.2 in0 tyX0 tyX0_ok nmX0 S.2.2.2.1 hE.1 hP hD hS 0 rfl rfl 1 (by decide) (S.2.2.2.2 (.fieldLink RX0 16 "DrillField$Contest" "penalties" "[I") (List.mem_of_getElem? (i := 7) rfl)) (fun _ h => h) rfl hin rfl (by decide +kernel) rfl rfl (Nat.le_of_ble_eq_true rfl) dX0_init_20 (fun H locs hP hD hS => ?_)
  have hP : va_P g.1 vwCl ([(a, .inr (0, [.ref (a1 (436)), .ref (a2 (443)), .int 0, .int 0]))] ++ dWL g (dmix (dmix (fun _ => 0) a1 (436) 7) a2 (443) 1) dI (([] ++ List.range' (436) 7) ++ List.range' (443) 1)) H := hP
  have hD : va_D (dAc a s.heap.size) ([(a, .inr (0, [.ref (a1 (436)), .ref (a2 (443)), .int 0, .int 0]))] ++ dWL g (dmix (dmix (fun _ => 0) a1 (436) 7) a2 (443) 1) dI (([] ++ List.range' (436) 7) ++ List.range' (443) 1)) := hD
  refine lv_aload_n S.1 S.2.1 dX0_init_23 rfl (lv_at hl 0 rfl) ?_
  refine lv_sipush (v := 9999) S.1 S.2.1 dX0_init_24 (by decide) ?_
  refine va_put (D := g.1) (ci := 0) (v := .int 9999) (ty := .int) (C := RX0) (T := TX0) (N := 4) S.1 S.2.1 S.2.2.2.2 in0 tyX0 tyX0_ok nmX0 S.2.2.2.1 hE.1 hP hD hS 0 rfl rfl 3 (by decide) (S.2.2.2.2 (.fieldLink RX0 20 "DrillField$Contest" "mostClock" "I") (List.mem_of_getElem? (i := 8) rfl)) (fun _ h => h) rfl (by decide +kernel) rfl rfl (Nat.le_of_ble_eq_true rfl) dX0_init_27 (fun H locs hP hD hS => ?_)
  have hP : va_P g.1 vwCl ([(a, .inr (0, [.ref (a1 (436)), .ref (a2 (443)), .int 0, .int 9999]))] ++ dWL g (dmix (dmix (fun _ => 0) a1 (436) 7) a2 (443) 1) dI (([] ++ List.range' (436) 7) ++ List.range' (443) 1)) H := hP
  have hD : va_D (dAc a s.heap.size) ([(a, .inr (0, [.ref (a1 (436)), .ref (a2 (443)), .int 0, .int 9999]))] ++ dWL g (dmix (dmix (fun _ => 0) a1 (436) 7) a2 (443) 1) dI (([] ++ List.range' (436) 7) ++ List.range' (443) 1)) := hD
  refine d_tc (ad := (fun j => if j = 435 then a else (dmix (dmix (fun _ => 0) a1 (436) 7) a2 (443) 1) j)) (ids := ([435] ++ (([] ++ List.range' (436) 7) ++ List.range' (443) 1))) S hr hlk ?_ (fun i h1 h2 => ?_) (if_pos rfl) (of_decide_eq_true (by decide +kernel)) hP hD hS (Nat.le_of_ble_eq_true rfl) (Nat.le_of_ble_eq_true rfl) dX0_init_30
  · show (_ :: _) = (_ :: _)
    refine List.cons_eq_cons.mpr ⟨?_, ?_⟩
    · refine Prod.ext (by simp) ?_
      show _ = dct (dga g _) dI (435)
      rw [dck1 (show dK 435 = 1 by decide +kernel)]
      simp [dmix, (show dK 435 = 1 by decide +kernel), dI_at, dI1]
    · exact dWL_no (xs := [435]) (by decide +kernel) (fun j hj => by rw [if_neg (by simpa using hj)])
  · have := List.all_eq_true.mp (show ((List.range' (435) 9).all fun i => (([435] ++ (([] ++ List.range' (436) 7) ++ List.range' (443) 1))).contains i) = true from (by decide +kernel)) i (List.mem_range'_1.mpr ⟨h1, h2⟩)
    simpa using this
