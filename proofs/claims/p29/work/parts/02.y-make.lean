/-! making: worlds by lists of ids, the memory at the start -/
def dga (g : dG) (ad : Nat → Nat) : dG := (g.1, g.2.1, ad, g.2.2.2)
def dWL (g : dG) (ad : Nat → Nat) (m : dM) (L : List Nat) : va_W := L.map (fun i => (ad i, dct (dga g ad) m i))
def dI1 (i k : Nat) : Int32 := if dK i = 6 then (if k = 4 then 1 else if k = 5 then 60 else 0) else if dK i = 3 then -1 else if i = 435 then (if k = 3 then 9999 else 0) else if i = 1 then (if k = 4 then 4 else 0) else if i = 2 ∨ i = 445 then (if k < 10 then 14 else 0) else if i = 4 ∨ i = 447 then (if k < 3 then -1 else 0) else if i = 444 then (if k = 0 then 4 else if k = 18 then 9999 else 0) else 0
def dI : dM := (dI1, fun _ _ => 0)
/-- before the starts of dots and model have run -/
def dZ1 (i k : Nat) : Int32 := if i = 444 then (if k = 0 then 4 else if k = 18 then 9999 else 0) else 0
def dZ : dM := (dZ1, fun _ _ => 0)
def dRf (i : Nat) : List Nat := if dK i = 1 then [436, 443] else if dK i = 2 then [2, 3, 4, 5] else if dK i = 3 then [] else if dK i = 4 then [395, 432] else if dK i = 5 then [154, 165, 166, 167, 168, 169, 170] else if dK i = 6 then [i + 1, i + 4, i + 7] else if dK i = 7 then [373, 376, 379, 390] else if dK i = 8 then [7, 44] else if dK i = 9 then [48, 145, 153] else if dK i = 10 then [i + 1, i + 2] else if dK i = 11 then [172, 368, 371] else if dK i = 12 then [1, 6, 47, 171, 372, 391, 394, 435] else if dK i = 23 then (List.range (dL i)).map (fun j => i + 1 + 8 * j) else if dK i = 24 then (List.range (dL i)).map (fun j => i + 1 + 3 * j) else if dK i = 25 then (List.range (dL i)).map (fun j => i + 1 + j) else if dK i = 26 then (List.range (dL i)).map (fun j => i + 1 + j) else []
theorem dck1 {g : dG} {ad : Nat → Nat} {m : dM} {i : Nat} (h : dK i = 1) : dct (dga g ad) m i = .inr (0, [.ref (ad 436), .ref (ad 443), .int (m.1 i 2), .int (m.1 i 3)]) := by simp [dct, dcx, h, dad, dga]
theorem dck2 {g : dG} {ad : Nat → Nat} {m : dM} {i : Nat} (h : dK i = 2) : dct (dga g ad) m i = .inr (1, [.ref (ad 2), .ref (ad 3), .ref (ad 4), .ref (ad 5), .int (m.1 i 4)]) := by simp [dct, dcx, h, dad, dga]
theorem dck3 {g : dG} {ad : Nat → Nat} {m : dM} {i : Nat} (h : dK i = 3) : dct (dga g ad) m i = .inr (2, [.int (m.1 i 0), .int (m.1 i 1), .int (m.1 i 2), .int (m.1 i 3)]) := by simp [dct, dcx, h, dad, dga]
theorem dck4 {g : dG} {ad : Nat → Nat} {m : dM} {i : Nat} (h : dK i = 4) : dct (dga g ad) m i = .inr (3, [.ref (ad 395), .ref (ad 432), .int (m.1 i 2)]) := by simp [dct, dcx, h, dad, dga]
theorem dck5 {g : dG} {ad : Nat → Nat} {m : dM} {i : Nat} (h : dK i = 5) : dct (dga g ad) m i = .inr (4, [.ref (ad 154), .ref (ad 165), .ref (ad 166), .ref (ad 167), .ref (ad 168), .ref (ad 169), .ref (ad 170), .int (m.1 i 7)]) := by simp [dct, dcx, h, dad, dga]
theorem dck6 {g : dG} {ad : Nat → Nat} {m : dM} {i : Nat} (h : dK i = 6) : dct (dga g ad) m i = .inr (5, [.ref (ad (i + 1)), .ref (ad (i + 4)), .ref (ad (i + 7)), .int (m.1 i 3), .int (m.1 i 4), .int (m.1 i 5), .int (m.1 i 6)]) := by simp [dct, dcx, h, dad, dga]
theorem dck7 {g : dG} {ad : Nat → Nat} {m : dM} {i : Nat} (h : dK i = 7) : dct (dga g ad) m i = .inr (6, [.ref (ad 373), .ref (ad 376), .ref (ad 379), .ref (ad 390)]) := by simp [dct, dcx, h, dad, dga]
theorem dck8 {g : dG} {ad : Nat → Nat} {m : dM} {i : Nat} (h : dK i = 8) : dct (dga g ad) m i = .inr (7, [.ref (ad 7), .ref (ad 44), .int (m.1 i 2)]) := by simp [dct, dcx, h, dad, dga]
theorem dck9 {g : dG} {ad : Nat → Nat} {m : dM} {i : Nat} (h : dK i = 9) : dct (dga g ad) m i = .inr (8, [.ref (ad 48), .ref (ad 145), .ref (ad 153), .int (m.1 i 3)]) := by simp [dct, dcx, h, dad, dga]
theorem dck10 {g : dG} {ad : Nat → Nat} {m : dM} {i : Nat} (h : dK i = 10) : dct (dga g ad) m i = .inr (9, [.ref (ad (i + 1)), .ref (ad (i + 2))]) := by simp [dct, dcx, h, dad, dga]
theorem dck11 {g : dG} {ad : Nat → Nat} {m : dM} {i : Nat} (h : dK i = 11) : dct (dga g ad) m i = .inr (10, [.ref (ad 172), .ref (ad 368), .ref (ad 371), .int (m.1 i 3)]) := by simp [dct, dcx, h, dad, dga]
theorem dck12 {g : dG} {ad : Nat → Nat} {m : dM} {i : Nat} (h : dK i = 12) : dct (dga g ad) m i = .inr (11, [.ref (ad 1), .ref (ad 6), .ref (ad 47), .ref (ad 171), .ref (ad 372), .ref (ad 391), .ref (ad 394), .ref (ad 435)]) := by simp [dct, dcx, h, dad, dga]
theorem dck20 {g : dG} {ad : Nat → Nat} {m : dM} {i : Nat} (h : dK i = 20) : dct (dga g ad) m i = .inl (dcy g 0, dL i, .inl (m.1 i)) := by simp [dct, dcx, h, dad, dga, dcy]
theorem dck21 {g : dG} {ad : Nat → Nat} {m : dM} {i : Nat} (h : dK i = 21) : dct (dga g ad) m i = .inl (dcy g 1, dL i, .inl (m.1 i)) := by simp [dct, dcx, h, dad, dga, dcy]
theorem dck22 {g : dG} {ad : Nat → Nat} {m : dM} {i : Nat} (h : dK i = 22) : dct (dga g ad) m i = .inl (dcy g 2, dL i, .inr (.inl (m.2 i))) := by simp [dct, dcx, h, dad, dga, dcy]
theorem dck23 {g : dG} {ad : Nat → Nat} {m : dM} {i : Nat} (h : dK i = 23) : dct (dga g ad) m i = .inl (dcy g 3, dL i, .inr (.inr (.inr (.inr (fun j => if j < dL i then some (ad (i + 1 + 8 * j)) else none))))) := by simp [dct, dcx, h, dad, dga, dcy]
theorem dck24 {g : dG} {ad : Nat → Nat} {m : dM} {i : Nat} (h : dK i = 24) : dct (dga g ad) m i = .inl (dcy g 4, dL i, .inr (.inr (.inr (.inr (fun j => if j < dL i then some (ad (i + 1 + 3 * j)) else none))))) := by simp [dct, dcx, h, dad, dga, dcy]
theorem dck25 {g : dG} {ad : Nat → Nat} {m : dM} {i : Nat} (h : dK i = 25) : dct (dga g ad) m i = .inl (dcy g 5, dL i, .inr (.inr (.inr (.inr (fun j => if j < dL i then some (ad (i + 1 + j)) else none))))) := by simp [dct, dcx, h, dad, dga, dcy]
theorem dck26 {g : dG} {ad : Nat → Nat} {m : dM} {i : Nat} (h : dK i = 26) : dct (dga g ad) m i = .inl (dcy g 6, dL i, .inr (.inr (.inr (.inr (fun j => if j < dL i then some (ad (i + 1 + j)) else none))))) := by simp [dct, dcx, h, dad, dga, dcy]
theorem dct_cong {g : dG} {ad ad' : Nat → Nat} {m m' : dM} {i : Nat} (h : ∀ j ∈ dRf i, ad j = ad' j) (e1 : m.1 i = m'.1 i) (e2 : m.2 i = m'.2 i) : dct (dga g ad) m i = dct (dga g ad') m' i := by
  by_cases h1 : dK i = 1
  · rw [dck1 h1, dck1 h1, e1, h (436) (by simp [dRf, h1]), h (443) (by simp [dRf, h1])]
  by_cases h2 : dK i = 2
  · rw [dck2 h2, dck2 h2, e1, h (2) (by simp [dRf, h2]), h (3) (by simp [dRf, h2]), h (4) (by simp [dRf, h2]), h (5) (by simp [dRf, h2])]
  by_cases h3 : dK i = 3
  · rw [dck3 h3, dck3 h3, e1]
  by_cases h4 : dK i = 4
  · rw [dck4 h4, dck4 h4, e1, h (395) (by simp [dRf, h4]), h (432) (by simp [dRf, h4])]
  by_cases h5 : dK i = 5
  · rw [dck5 h5, dck5 h5, e1, h (154) (by simp [dRf, h5]), h (165) (by simp [dRf, h5]), h (166) (by simp [dRf, h5]), h (167) (by simp [dRf, h5]), h (168) (by simp [dRf, h5]), h (169) (by simp [dRf, h5]), h (170) (by simp [dRf, h5])]
  by_cases h6 : dK i = 6
  · rw [dck6 h6, dck6 h6, e1, h (i + 1) (by simp [dRf, h6]), h (i + 4) (by simp [dRf, h6]), h (i + 7) (by simp [dRf, h6])]
  by_cases h7 : dK i = 7
  · rw [dck7 h7, dck7 h7, h (373) (by simp [dRf, h7]), h (376) (by simp [dRf, h7]), h (379) (by simp [dRf, h7]), h (390) (by simp [dRf, h7])]
  by_cases h8 : dK i = 8
  · rw [dck8 h8, dck8 h8, e1, h (7) (by simp [dRf, h8]), h (44) (by simp [dRf, h8])]
  by_cases h9 : dK i = 9
  · rw [dck9 h9, dck9 h9, e1, h (48) (by simp [dRf, h9]), h (145) (by simp [dRf, h9]), h (153) (by simp [dRf, h9])]
  by_cases h10 : dK i = 10
  · rw [dck10 h10, dck10 h10, h (i + 1) (by simp [dRf, h10]), h (i + 2) (by simp [dRf, h10])]
  by_cases h11 : dK i = 11
  · rw [dck11 h11, dck11 h11, e1, h (172) (by simp [dRf, h11]), h (368) (by simp [dRf, h11]), h (371) (by simp [dRf, h11])]
  by_cases h12 : dK i = 12
  · rw [dck12 h12, dck12 h12, h (1) (by simp [dRf, h12]), h (6) (by simp [dRf, h12]), h (47) (by simp [dRf, h12]), h (171) (by simp [dRf, h12]), h (372) (by simp [dRf, h12]), h (391) (by simp [dRf, h12]), h (394) (by simp [dRf, h12]), h (435) (by simp [dRf, h12])]
  by_cases h20 : dK i = 20
  · rw [dck20 h20, dck20 h20, e1]
  by_cases h21 : dK i = 21
  · rw [dck21 h21, dck21 h21, e1]
  by_cases h22 : dK i = 22
  · rw [dck22 h22, dck22 h22, e2]
  by_cases h23 : dK i = 23
  · rw [dck23 h23, dck23 h23]
    have e : (fun j => if j < dL i then some (ad (i + 1 + 8 * j)) else none) = (fun j => if j < dL i then some (ad' (i + 1 + 8 * j)) else none) := by
      funext j; by_cases hj : j < dL i
      · rw [if_pos hj, if_pos hj, h _ (by simp only [dRf, h23]; exact List.mem_map.mpr ⟨j, List.mem_range.mpr hj, rfl⟩)]
      · rw [if_neg hj, if_neg hj]
    rw [e]
  by_cases h24 : dK i = 24
  · rw [dck24 h24, dck24 h24]
    have e : (fun j => if j < dL i then some (ad (i + 1 + 3 * j)) else none) = (fun j => if j < dL i then some (ad' (i + 1 + 3 * j)) else none) := by
      funext j; by_cases hj : j < dL i
      · rw [if_pos hj, if_pos hj, h _ (by simp only [dRf, h24]; exact List.mem_map.mpr ⟨j, List.mem_range.mpr hj, rfl⟩)]
      · rw [if_neg hj, if_neg hj]
    rw [e]
  by_cases h25 : dK i = 25
  · rw [dck25 h25, dck25 h25]
    have e : (fun j => if j < dL i then some (ad (i + 1 + j)) else none) = (fun j => if j < dL i then some (ad' (i + 1 + j)) else none) := by
      funext j; by_cases hj : j < dL i
      · rw [if_pos hj, if_pos hj, h _ (by simp only [dRf, h25]; exact List.mem_map.mpr ⟨j, List.mem_range.mpr hj, rfl⟩)]
      · rw [if_neg hj, if_neg hj]
    rw [e]
  by_cases h26 : dK i = 26
  · rw [dck26 h26, dck26 h26]
    have e : (fun j => if j < dL i then some (ad (i + 1 + j)) else none) = (fun j => if j < dL i then some (ad' (i + 1 + j)) else none) := by
      funext j; by_cases hj : j < dL i
      · rw [if_pos hj, if_pos hj, h _ (by simp only [dRf, h26]; exact List.mem_map.mpr ⟨j, List.mem_range.mpr hj, rfl⟩)]
      · rw [if_neg hj, if_neg hj]
    rw [e]
  simp [dct, dcx, h1, h2, h3, h4, h5, h6, h7, h8, h9, h10, h11, h12, h20, h21, h22, h23, h24, h25, h26]
/-- f, but ad1 on the n ids from c on -/
def dmix (ad ad1 : Nat → Nat) (c n : Nat) : Nat → Nat := fun i => if c ≤ i ∧ i < c + n then ad1 i else ad i
theorem dmix_in {ad ad1 : Nat → Nat} {c n i : Nat} (h : c ≤ i ∧ i < c + n) : dmix ad ad1 c n i = ad1 i := if_pos h
theorem dmix_out {ad ad1 : Nat → Nat} {c n i : Nat} (h : ¬ (c ≤ i ∧ i < c + n)) : dmix ad ad1 c n i = ad i := if_neg h
theorem dWL_cong {g : dG} {ad ad' : Nat → Nat} {m m' : dM} {L : List Nat} (h : ∀ i ∈ L, ad i = ad' i ∧ (∀ j ∈ dRf i, ad j = ad' j) ∧ m.1 i = m'.1 i ∧ m.2 i = m'.2 i) : dWL g ad m L = dWL g ad' m' L := by
  unfold dWL
  apply List.map_congr_left
  intro i hi
  obtain ⟨h1, h2, h3, h4⟩ := h i hi
  rw [h1, dct_cong h2 h3 h4]
/-- no id of L, and none that it names, lies among the n from c on; those from c on name such alone -/
def dApart (L : List Nat) (c n : Nat) : Prop := (∀ i ∈ L, ¬ (c ≤ i ∧ i < c + n) ∧ ∀ j ∈ dRf i, ¬ (c ≤ j ∧ j < c + n)) ∧ ∀ i, c ≤ i → i < c + n → ∀ j ∈ dRf i, c ≤ j ∧ j < c + n
theorem dWL_app {g : dG} {ad ad1 : Nat → Nat} {m : dM} {L : List Nat} {c n : Nat} (h : dApart L c n) : dWL g ad m L ++ dWL g ad1 m (List.range' c n) = dWL g (dmix ad ad1 c n) m (L ++ List.range' c n) := by
  have e1 : dWL g ad m L = dWL g (dmix ad ad1 c n) m L := dWL_cong (fun i hi => ⟨(dmix_out (h.1 i hi).1).symm, fun j hj => (dmix_out ((h.1 i hi).2 j hj)).symm, rfl, rfl⟩)
  have e2 : dWL g ad1 m (List.range' c n) = dWL g (dmix ad ad1 c n) m (List.range' c n) := dWL_cong (fun i hi => by
    rw [List.mem_range'_1] at hi
    exact ⟨(dmix_in hi).symm, fun j hj => (dmix_in (h.2 i hi.1 hi.2 j hj)).symm, rfl, rfl⟩)
  rw [e1, e2]
  exact List.map_append.symm
/-- what stays from a new object's start on -/
def dAOA (ty : FieldType) (U : State) : Prop := (Cond.arrayOver (.array ty)).before #[] U = true
def dNi : List (String × Nat × MethodName × String) := [("DrillField", 39, ⟨"DrillField$Recount", "<init>", "()V"⟩, "DrillField"), ("DrillField", 46, ⟨"DrillField$Spots", "<init>", "()V"⟩, "DrillField"), ("DrillField", 60, ⟨"DrillField$Contest", "<init>", "()V"⟩, "DrillField"), ("DrillField$Pages", 17, ⟨"DrillField$Spots", "<init>", "()V"⟩, "DrillField"), ("DrillField$Part", 11, ⟨"DrillField$Spots", "<init>", "()V"⟩, "DrillField"), ("DrillField$Recount", 11, ⟨"DrillField$Spots", "<init>", "()V"⟩, "DrillField"), ("DrillField$Recount", 28, ⟨"DrillField$Fault", "<init>", "()V"⟩, "DrillField"), ("DrillField$Sets", 17, ⟨"DrillField$Spots", "<init>", "()V"⟩, "DrillField"), ("DrillField$Show", 17, ⟨"DrillField$Part", "<init>", "()V"⟩, "DrillField"), ("DrillField$Show", 24, ⟨"DrillField$Pairing", "<init>", "()V"⟩, "DrillField"), ("DrillField$Watch", 17, ⟨"DrillField$Spots", "<init>", "()V"⟩, "DrillField"), ("DrillField$Watch", 24, ⟨"DrillField$Fault", "<init>", "()V"⟩, "DrillField")]
def dEn0 (g : dG) (U : State) : Prop := va_K g.1 vwCl (dTys g) U ∧ (∀ q ∈ dNq ++ dNi, va_Nw (dNw q) U) ∧ vx_Zq Bundle.tN "UNASSIGNED_STACK" Bundle.steD (dA g) U U.heap ∧ vx_Zq Bundle.tN "SUPPRESSED_SENTINEL" Bundle.listD (dA g) U U.heap ∧ (∀ q ∈ dStr, ∃ sa, vk_R "DrillField" q.1 q.2 sa U) ∧ g.2.2.2 ≤ U.heap.size ∧ (∀ x ∈ dDc, va_Nw (.declares x) U) ∧ (∀ x ∈ dExs, va_Nw (.castable x x) U) ∧ (∀ x ∈ dExs, ∀ z ∈ dExs, x ≠ z → va_Nc x z U) ∧ va_AO "DrillField$Part" U ∧ va_AO "DrillField$Spots" U ∧ dAOA .int U ∧ dAOA .long U
theorem dEn0.to {g : dG} {u U : State} (h : dEn0 g u) (hW : u.WarmedH U.vm) (hz : u.heap.size ≤ U.heap.size) (hk : ∀ q, q < u.heap.size → ¬ dA g q → U.heap[q]? = u.heap[q]?) : dEn0 g U := by
  obtain ⟨h1, h2, h3, h4, h5, h6, h7, h8, h9, h10, h11, h12, h13⟩ := h
  exact ⟨va_K.moved hW.alike h1, fun q hq => va_Nw.warmM hW (h2 q hq), (vx_Zq.moved hW.alike h3).kept hk, (vx_Zq.moved hW.alike h4).kept hk, fun q hq => (h5 q hq).elim fun sa hs => ⟨sa, hs.warm hW⟩, Nat.le_trans h6 hz, fun x hx => va_Nw.warmD hW (h7 x hx), fun x hx => va_Nw.warmC hW (h8 x hx), fun x hx z hz n => va_Nc.moved hW.alike (h9 x hx z hz n), va_AO.moved hW.alike h10, va_AO.moved hW.alike h11, over_moved hW.alike h12, over_moved hW.alike h13⟩
theorem dEn0.call {g : dG} {U : State} (f : JFrame) (mk : MethodId) (a : Array Value) (h : dEn0 g U) : dEn0 g (U.calling f mk a) := by
  obtain ⟨h1, h2, h3, h4, h5, h6, h7, h8, h9, h10, h11, h12, h13⟩ := h
  exact ⟨va_K.moved (u := U) (U := U.calling f mk a) (Vm.Alike.refl U.vm) h1, fun q hq => va_Nw.same (u := U) rfl rfl (h2 q hq), vx_Zq.moved (u := U) (U := U.calling f mk a) (Vm.Alike.refl U.vm) h3, vx_Zq.moved (u := U) (U := U.calling f mk a) (Vm.Alike.refl U.vm) h4, fun q hq => (h5 q hq).elim fun sa hs => ⟨sa, hs.same rfl⟩, h6, fun x hx => va_Nw.same (u := U) rfl rfl (h7 x hx), fun x hx => va_Nw.same (u := U) rfl rfl (h8 x hx), fun x hx z hz n => va_Nc.moved (u := U) (U := U.calling f mk a) (Vm.Alike.refl U.vm) (h9 x hx z hz n), va_AO.moved (u := U) (U := U.calling f mk a) (Vm.Alike.refl U.vm) h10, va_AO.moved (u := U) (U := U.calling f mk a) (Vm.Alike.refl U.vm) h11, over_moved (u := U) (E := U.calling f mk a) (Vm.Alike.refl U.vm) h12, over_moved (u := U) (E := U.calling f mk a) (Vm.Alike.refl U.vm) h13⟩
theorem dEn0.env {g : dG} {ad : Nat → Nat} {U : State} (h : dEn0 g U) (hD : ∀ m, va_D (dA (dga g ad)) (dws (dga g ad) m)) : dEnv (dga g ad) U :=
  ⟨h.1, fun q hq => h.2.1 q (List.mem_append_left _ hq), h.2.2.1, h.2.2.2.1, h.2.2.2.2.1, hD, h.2.2.2.2.2.1, h.2.2.2.2.2.2.1, h.2.2.2.2.2.2.2.1, h.2.2.2.2.2.2.2.2.1⟩
/-! a constructor's contract: from its own blank cell at a to its n cells from the id c on -/
def dAc (a sz : Nat) : Nat → Prop := fun q => q = a ∨ sz ≤ q
def dCp (g : dG) (ci : Nat) (fs : List Value) (a sz : Nat) : State → Prop := fun U => U.heap.size = sz ∧ g.2.2.2 ≤ a ∧ dEn0 g U ∧ va_P g.1 vwCl [(a, .inr (ci, fs))] U.heap
def dGd (ad : Nat → Nat) (a sz c n : Nat) : Prop := ad c = a ∧ (∀ i j, c ≤ i → i < c + n → c ≤ j → j < c + n → ad i = ad j → i = j) ∧ ∀ i, c < i → i < c + n → sz ≤ ad i
abbrev dCQ (g : dG) (m0 : dM) (c n a sz : Nat) : Array Value → State → Outcome → State → Prop := va_Qv (fun ad : Nat → Nat => dGd ad a sz c n) (fun ad t => va_P g.1 vwCl (dWL g ad m0 (List.range' c n)) t.heap) (dAc a sz)
abbrev dCm (k1 k2 f n : Nat) : Room := { frames := f, cells := k1, slots := k2, locals := n }
abbrev dCMet (l : Launch) (g : dG) (y : MethodName) (ws : List Cond) (f nl k1 k2 : Nat) (ci : Nat) (fs : List Value) (m0 : dM) (c n : Nat) : Prop := ∀ a sz : Nat, Met l y ws (dCm k1 k2 f nl) (va_Pc [.ref a] (dCp g ci fs a sz)) (dCQ g m0 c n a sz) k1 k2 (dAc a sz)
theorem dCblind {g : dG} {ci : Nat} {fs av : List Value} {a sz : Nat} : FrameBlind (va_Pc av (dCp g ci fs a sz)) := fun _ _ f mk h => ⟨h.1, h.2.1, h.2.2.1, h.2.2.2.1.call f mk _, h.2.2.2.2⟩
section DN
variable {p : Program} {l : Launch} {e : Env} {R : Room} {s : State} {m : MethodId} {args : Array Value} {below : List Frame} {meth : Method} {c : Code} {H : Heap} {locs : List Loc} {cells slots : Nat} {Q : State → Prop}
variable {g : dG} {mm m0 : dM} {cc bytes : ByteArray} {nL maxL index i k pc : Nat} {ls : Array Slot} {rest st0 : List Value} {Ts ws : List Cond} {own C host : String} {y : MethodName} {ret : Option FieldType} {rm : Room} {A : Nat → Prop} {X : va_W}
theorem dcof {l : Launch} {g : dG} {y : MethodName} {ws ws' : List Cond} {f nl k1 k2 ci c0 n0 : Nat} {fs : List Value} {m0 : dM} {cc : ByteArray} {maxL : Nat} (hy : plainName y.cls = true) (hyn : y.name = "<init>") (hw : ws = Cond.code y cc maxL none :: ws') (hlen : 1 ≤ maxL)
    (body : ∀ (a : Nat) (p : Program) (e : Env) (s : State) (m : MethodId) (below : List Frame) (meth : Method) (c : Code), CallFix p m c cc maxL s (#[Value.ref a]) ws y.cls → meth.sig.returnType = none → meth.locks = false → meth.name = "<init>" → dEn0 g s → g.2.2.2 ≤ a → (∀ q : Nat, s.heap.size ≤ q → dAc a s.heap.size q) → ∀ (H : Heap) (ls : Array Slot), va_P g.1 vwCl ([(a, .inr (ci, fs))] : va_W) H → va_D (dAc a s.heap.size) ([(a, .inr (ci, fs))] : va_W) → va_S (dAc a s.heap.size) s.heap H [] → lv_has ls maxL [(0, .ref a)] →
      W p l e (headSpec ws (dCm k1 k2 f nl)).room s m #[Value.ref a] below meth c H [] 0 0 (MQ below (dCQ g m0 c0 n0 a s.heap.size) #[Value.ref a] s k1 k2 (dAc a s.heap.size)) (F0 m 0 ls [])) : dCMet l g y ws f nl k1 k2 ci fs m0 c0 n0 := by
  intro a sz
  refine Met.ofW (cc := cc) (maxL := maxL) (ret := none) hy hw ?_
  intro p e s m args below meth c s₁ B hml hv
  obtain ⟨rfl, hsz, hba, hE, hP⟩ := hv
  subst hsz
  have hl := lv_entry [Value.ref a] (n := maxL) hlen
  rw [lg_entry_eq]
  refine body a p e s m below meth c ⟨B.exec, B.bytes, hml, findClass_of_methodNamed B.named, atoms_spec (ws := ws) B.pre⟩ B.returns B.notSynchronized ((name_of_methodNamed B.named B.method).1.trans hyn) hE hba (fun q h => Or.inr h) s.heap _ hP ?_ va_S.rf hl
  refine ⟨fun i j x z hi hj _ => ?_, fun k q hk => ?_⟩
  · have h1 := (List.getElem?_eq_some_iff.mp hi).1
    have h2 := (List.getElem?_eq_some_iff.mp hj).1
    simp at h1 h2; omega
  · have h1 := (List.getElem?_eq_some_iff.mp hk).1
    simp at h1; subst h1
    cases hk
    exact Or.inl rfl
theorem dWL1 {q : Nat} {mm : dM} {id : Nat} {e : va_E} (h : ∀ ad : Nat → Nat, dct (dga g ad) mm id = e) : ([(q, e)] : va_W) = dWL g (fun _ => q) mm (List.range' id 1) := by
  show _ = [(q, dct (dga g (fun _ => q)) mm id)]
  rw [h]
theorem dRA_eq {U : State} {c1 c2 : ClassId} {ty : FieldType} (h1 : va_RA U c1 ty) (h2 : va_RA U c2 ty) : c1 = c2 := by
  cases ty with
  | object C =>
    obtain ⟨_, _, -, -, -, e1⟩ := h1
    obtain ⟨_, _, -, -, -, e2⟩ := h2
    exact Option.some.inj (e1.symm.trans e2)
  | _ => exact Option.some.inj ((show U.vm.findClass _ = some c1 from h1).symm.trans (show U.vm.findClass _ = some c2 from h2))
theorem dty_eq {cA cB : ClassId} {ty : FieldType} (t : Nat) (ht : (dTys g)[t]? = some (cB, ty)) (hK : va_K g.1 vwCl (dTys g) s) (hK1 : va_K g.1 vwCl (dTys g ++ [(cA, ty)]) s) : cA = cB :=
  dRA_eq (hK1.2 7 (cA, ty) rfl).2 (hK.2 t _ ht).2
theorem d_newI (id : Nat) {n : Int32} {N' : Nat} (hk : dK id = 20) (hL : dL id = N') (hz : mm.1 id = fun _ => 0) (S : CallFix p m c cc nL s args Ts own) (harr : (Cond.arrayClass .int).before args s = true) (hK : va_K g.1 vwCl (dTys g) s) (hP : va_P g.1 vwCl X H) (hD : va_D A X) (hS : va_S A s.heap H locs) (hA : ∀ q, s.heap.size ≤ q → A q)
    (hn : ¬ n < 0) (hN : n.toNatClampNeg = N') (hb : N' * componentBytes .int ≤ 536870912) (hc : cells + 1 ≤ R.cells) (hs : slots + N' ≤ R.slots) (hdg : decode cc pc = .ok (.newarray .int, 2))
    (kk : ∀ (ad1 : Nat → Nat) (H1 : Heap), va_P g.1 vwCl (X ++ dWL g ad1 mm (List.range' id 1)) H1 → va_D A (X ++ dWL g ad1 mm (List.range' id 1)) → va_S A s.heap H1 locs → W p l e R s m args below meth c H1 locs (cells + 1) (slots + N') Q (F0 m (pc + 2) ls (.ref (ad1 id) :: rest))) : W p l e R s m args below meth c H locs cells slots Q (F0 m pc ls (.int n :: rest)) :=
  va_newa (atype := .int) S.1 S.2.1 harr rfl hK hP hD hS hA (a0 := (N', .inl (fun _ => 0))) (fun cA => rfl) hn hN hb hc hs hdg (fun q cA H1 hK1 hP1 hD1 hS1 => by
    obtain rfl := dty_eq 0 rfl hK hK1
    have e := dWL1 (g := g) (q := q) (mm := mm) (id := id) (e := .inl (dcy g 0, N', .inl (fun _ => 0))) (fun ad => by rw [dck20 hk, hL, hz])
    rw [e] at hP1 hD1
    exact kk (fun _ => q) H1 hP1 hD1 hS1)
theorem d_newZ (id : Nat) {n : Int32} {N' : Nat} (hk : dK id = 21) (hL : dL id = N') (hz : mm.1 id = fun _ => 0) (S : CallFix p m c cc nL s args Ts own) (harr : (Cond.arrayClass .boolean).before args s = true) (hK : va_K g.1 vwCl (dTys g) s) (hP : va_P g.1 vwCl X H) (hD : va_D A X) (hS : va_S A s.heap H locs) (hA : ∀ q, s.heap.size ≤ q → A q)
    (hn : ¬ n < 0) (hN : n.toNatClampNeg = N') (hb : N' * componentBytes .boolean ≤ 536870912) (hc : cells + 1 ≤ R.cells) (hs : slots + N' ≤ R.slots) (hdg : decode cc pc = .ok (.newarray .boolean, 2))
    (kk : ∀ (ad1 : Nat → Nat) (H1 : Heap), va_P g.1 vwCl (X ++ dWL g ad1 mm (List.range' id 1)) H1 → va_D A (X ++ dWL g ad1 mm (List.range' id 1)) → va_S A s.heap H1 locs → W p l e R s m args below meth c H1 locs (cells + 1) (slots + N') Q (F0 m (pc + 2) ls (.ref (ad1 id) :: rest))) : W p l e R s m args below meth c H locs cells slots Q (F0 m pc ls (.int n :: rest)) :=
  va_newa (atype := .boolean) S.1 S.2.1 harr rfl hK hP hD hS hA (a0 := (N', .inl (fun _ => 0))) (fun cA => rfl) hn hN hb hc hs hdg (fun q cA H1 hK1 hP1 hD1 hS1 => by
    obtain rfl := dty_eq 1 rfl hK hK1
    have e := dWL1 (g := g) (q := q) (mm := mm) (id := id) (e := .inl (dcy g 1, N', .inl (fun _ => 0))) (fun ad => by rw [dck21 hk, hL, hz])
    rw [e] at hP1 hD1
    exact kk (fun _ => q) H1 hP1 hD1 hS1)
theorem d_newJ (id : Nat) {n : Int32} {N' : Nat} (hk : dK id = 22) (hL : dL id = N') (hz : mm.2 id = fun _ => 0) (S : CallFix p m c cc nL s args Ts own) (harr : (Cond.arrayClass .long).before args s = true) (hK : va_K g.1 vwCl (dTys g) s) (hP : va_P g.1 vwCl X H) (hD : va_D A X) (hS : va_S A s.heap H locs) (hA : ∀ q, s.heap.size ≤ q → A q)
    (hn : ¬ n < 0) (hN : n.toNatClampNeg = N') (hb : N' * componentBytes .long ≤ 536870912) (hc : cells + 1 ≤ R.cells) (hs : slots + N' ≤ R.slots) (hdg : decode cc pc = .ok (.newarray .long, 2))
    (kk : ∀ (ad1 : Nat → Nat) (H1 : Heap), va_P g.1 vwCl (X ++ dWL g ad1 mm (List.range' id 1)) H1 → va_D A (X ++ dWL g ad1 mm (List.range' id 1)) → va_S A s.heap H1 locs → W p l e R s m args below meth c H1 locs (cells + 1) (slots + N') Q (F0 m (pc + 2) ls (.ref (ad1 id) :: rest))) : W p l e R s m args below meth c H locs cells slots Q (F0 m pc ls (.int n :: rest)) :=
  va_newa (atype := .long) S.1 S.2.1 harr rfl hK hP hD hS hA (a0 := (N', .inr (.inl (fun _ => 0)))) (fun cA => rfl) hn hN hb hc hs hdg (fun q cA H1 hK1 hP1 hD1 hS1 => by
    obtain rfl := dty_eq 2 rfl hK hK1
    have e := dWL1 (g := g) (q := q) (mm := mm) (id := id) (e := .inl (dcy g 2, N', .inr (.inl (fun _ => 0)))) (fun ad => by rw [dck22 hk, hL, hz])
    rw [e] at hP1 hD1
    exact kk (fun _ => q) H1 hP1 hD1 hS1)
/-- new T[n], T one of the two classes: the array stays apart while it is filled -/
theorem d_newQ {C : String} {n : Int32} {N' : Nat} {cB : ClassId} (t : Nat) (ht : (dTys g)[t]? = some (cB, .object C)) (S : CallFix p m c cc nL s args Ts own) (hcl : (Cond.classLink own index C).before args s = true) (hov : va_AO C s) (hK : va_K g.1 vwCl (dTys g) s) (hP : va_P g.1 vwCl X H) (hD : va_D A X) (hS : va_S A s.heap H locs) (hA : ∀ q, s.heap.size ≤ q → A q)
    (hn : ¬ n < 0) (hN : n.toNatClampNeg = N') (hb : N' * 4 ≤ 536870912) (hc : cells + 1 ≤ R.cells) (hs : slots + N' ≤ R.slots) (hdg : decode cc pc = .ok (.anewarray index, 3))
    (kk : ∀ (q : Nat) (H1 : Heap), va_P g.1 vwCl (X ++ [(q, .inl (cB, N', .inr (.inr (.inr (.inr (fun _ => none))))))]) H1 → va_D A (X ++ [(q, .inl (cB, N', .inr (.inr (.inr (.inr (fun _ => none))))))]) → va_S A s.heap H1 locs → W p l e R s m args below meth c H1 locs (cells + 1) (slots + N') Q (F0 m (pc + 3) ls (.ref q :: rest))) : W p l e R s m args below meth c H locs cells slots Q (F0 m pc ls (.int n :: rest)) :=
  va_newq S.1 S.2.1 S.2.2.2.1 hcl hov hK hP hD hS hA hn hN hb hc hs hdg (fun q cA H1 hK1 hP1 hD1 hS1 => by
    obtain rfl := dty_eq t ht hK hK1
    exact kk q H1 hP1 hD1 hS1)
theorem d_apart {ws1 ws2 : va_W} {sz a : Nat} {e0 : va_E} (hD : va_D A (ws1 ++ [(a, e0)])) (hlt : ∀ (k : Nat) (q : Nat × va_E), ws1[k]? = some q → q.1 < sz) (h2 : va_D A ws2) (h3 : ∀ (k : Nat) (q : Nat × va_E), ws2[k]? = some q → q.1 = a ∨ sz ≤ q.1) : va_D A (ws1 ++ ws2) := by
  have h1 : va_D A ws1 := ⟨fun i j x y hi hj hxy => hD.1 i j x y (by rw [List.getElem?_append_left (List.getElem?_eq_some_iff.mp hi).1]; exact hi) (by rw [List.getElem?_append_left (List.getElem?_eq_some_iff.mp hj).1]; exact hj) hxy, fun k q hk => hD.2 k q (by rw [List.getElem?_append_left (List.getElem?_eq_some_iff.mp hk).1]; exact hk)⟩
  refine va_D.app h1 h2 (fun i j x y hi hj hxy => ?_)
  have hx := hlt i x hi
  rcases h3 j y hj with q | q
  · have hl := (List.getElem?_eq_some_iff.mp hi).1
    have := hD.1 i ws1.length x (a, e0) (by rw [List.getElem?_append_left hl]; exact hi) (by rw [List.getElem?_append_right (Nat.le_refl _), Nat.sub_self]; rfl) (hxy.trans q)
    omega
  · omega
theorem d_newo {T : u_T} {N ci ik k1 k2 : Nat} {fs : List Value} (id n : Nat) (ty : Nat → FieldType) (hty : ∀ k, k < N → parseFieldDescriptor (T k).2.2.1 = some (ty k)) (S : CallFix p m c cc nL s args Ts own) (hin : ∀ w ∈ u_ws C T N, w ∈ Ts) (hcl : (Cond.classLink own ik C).before args s = true) (hinst : (Cond.instantiable C N).before args s = true) (hini : (Cond.initialized C).before args s = true)
    (hE : dEn0 g s) (hAb : ∀ q, A q → g.2.2.2 ≤ q) (hP : va_P g.1 vwCl X H) (hD : va_D A X) (hS : va_S A s.heap H locs) (hA : ∀ q, s.heap.size ≤ q → A q) (hc : vwCl[ci]? = some (C, T, N)) (hfs : ∀ j, j < N → defaultValue (ty j) = vp_V fs j)
    (hrun : ∀ (q : Nat) (H1 : Heap) (locs1 : List Loc) (cells1 slots1 : Nat), PreS s H1 (va_Pc [.ref q] (dCp g ci fs q H1.size)) [.ref q] → cells1 + k1 ≤ R.cells ∧ slots1 + k2 ≤ R.slots → va_Run p l e R s m args below meth c H1 locs1 cells1 slots1 k1 k2 (F0 m (pc + 4) ls (.ref q :: .ref q :: rest)) (.ref q :: rest) (dCQ g mm id n q H1.size #[.ref q]) (dAc q H1.size))
    (hR1 : cells + 1 + k1 ≤ R.cells) (hR2 : slots + N + k2 ≤ R.slots) (d0 : decode cc pc = .ok (.new ik, 3)) (d3 : decode cc (pc + 3) = .ok (.dup, 1))
    (kk : ∀ (ad1 : Nat → Nat) (H1 : Heap) (locs1 : List Loc), va_P g.1 vwCl (X ++ dWL g ad1 mm (List.range' id n)) H1 → va_D A (X ++ dWL g ad1 mm (List.range' id n)) → va_S A s.heap H1 locs1 → W p l e R s m args below meth c H1 locs1 (cells + 1 + k1) (slots + N + k2) Q (F0 m (pc + 7) ls (.ref (ad1 id) :: rest))) : W p l e R s m args below meth c H locs cells slots Q (F0 m pc ls rest) := by
  refine va_new (C := C) (T := T) (N := N) (ci := ci) (fs := fs) S.1 S.2.1 S.2.2.2.2 hin ty hty S.2.2.2.1 hcl hinst hini hE.1 hP hD hS hA hc hfs (by omega) (by omega) d0 (fun q H1 hP1 hD1 hS1 => ?_)
  refine lv_dup S.1 S.2.1 d3 rfl ?_
  have hAq : A q := hD1.2 X.length (q, .inr (ci, fs)) (by rw [List.getElem?_append_right (Nat.le_refl _), Nat.sub_self]; rfl)
  have hPc : va_P g.1 vwCl [(q, .inr (ci, fs))] H1 := fun k x hk => by
    have h1 := (List.getElem?_eq_some_iff.mp hk).1
    simp at h1; subst h1
    exact hP1 X.length x (by rw [List.getElem?_append_right (Nat.le_refl _), Nat.sub_self]; exact hk)
  have hX1 : ∀ (k : Nat) (x : Nat × va_E), X[k]? = some x → (X ++ [(q, .inr (ci, fs))])[k]? = some x := fun k x hk => by rw [List.getElem?_append_left (List.getElem?_eq_some_iff.mp hk).1]; exact hk
  have hf : ∀ x, dAc q H1.size x → A x := fun x h => by
    rcases h with rfl | h
    · exact hAq
    · exact hA x (Nat.le_trans hS1.1 h)
  have hpre : PreS s H1 (va_Pc [.ref q] (dCp g ci fs q H1.size)) [.ref q] := ⟨dCblind, fun U hU hW => ⟨rfl, by rw [hU], hAb q hAq, hE.to hW (by rw [hU]; exact hS1.1) (fun x h1 h2 => by rw [hU]; exact hS1.2.1 x h1 (fun h => h2 (hAb x h))), by rw [hU]; exact hPc⟩⟩
  refine va_callv (hrun q H1 locs (cells + 1) (slots + N) hpre ⟨hR1, hR2⟩) hS1 (fun x _ h => hf x h) hf (fun ad t H2 locs2 ht hvm hw hB hz hk hS2 => ?_)
  rw [ht] at hB
  have hlt : ∀ (k : Nat) (x : Nat × va_E), X[k]? = some x → x.1 < H1.size := fun k x hx => (hP1 k x (hX1 k x hx)).lt
  have hne : ∀ (k : Nat) (x : Nat × va_E), X[k]? = some x → x.1 ≠ q := fun k x hx e => by
    have hl := (List.getElem?_eq_some_iff.mp hx).1
    have := hD1.1 k X.length x (q, .inr (ci, fs)) (hX1 k x hx) (by rw [List.getElem?_append_right (Nat.le_refl _), Nat.sub_self]; rfl) e
    omega
  have hPX : va_P g.1 vwCl X H2 := fun k x hx => (hP1 k x (hX1 k x hx)).kept (hk x.1 (hlt k x hx) (fun h => by
    rcases h with h | h
    · exact hne k x hx h
    · have := hlt k x hx; omega))
  have hget : ∀ (k : Nat) (x : Nat × va_E), (dWL g ad mm (List.range' id n))[k]? = some x → k < n ∧ x.1 = ad (id + k) := fun k x hx => by
    unfold dWL at hx
    rw [List.getElem?_map] at hx
    rcases Nat.lt_or_ge k n with hk | hk
    · rw [List.getElem?_range' (by omega)] at hx
      simp at hx
      exact ⟨hk, by rw [← hx]⟩
    · rw [List.getElem?_eq_none (by simpa using hk)] at hx
      cases hx
  obtain ⟨g1, g2, g3⟩ := hw
  have hD2 : va_D A (dWL g ad mm (List.range' id n)) := ⟨fun i j x z hi hj hxy => by
    obtain ⟨i1, i2⟩ := hget i x hi
    obtain ⟨j1, j2⟩ := hget j z hj
    have := g2 (id + i) (id + j) (by omega) (by omega) (by omega) (by omega) (by rw [← i2, ← j2]; exact hxy)
    omega, fun k x hx => by
    obtain ⟨i1, i2⟩ := hget k x hx
    rw [i2]
    rcases Nat.eq_zero_or_pos k with h0 | h0
    · subst h0; rw [Nat.add_zero, g1]; exact hAq
    · exact hA _ (Nat.le_trans hS1.1 (g3 (id + k) (by omega) (by omega)))⟩
  refine W.eq (g2 := F0 m (pc + 7) ls (.ref (ad id) :: rest)) (by rw [g1]) (kk ad H2 locs2 (hPX.app hB) (d_apart (a := q) (sz := H1.size) hD1 hlt hD2 (fun k x hx => ?_)) hS2)
  obtain ⟨i1, i2⟩ := hget k x hx
  rcases Nat.eq_zero_or_pos k with h0 | h0
  · left; subst h0; rw [i2, Nat.add_zero, g1]
  · right; rw [i2]; exact g3 (id + k) (by omega) (by omega)
theorem d_ast {e0 : va_E} {a q n0 v ci t0 : Nat} {cB : ClassId} {f : Nat → Option Nat} {vs : List Value} {r : vw_C} {tl : va_W} {j : Int32} (S : CallFix p m c cc nL s args Ts own) (hK : va_K g.1 vwCl (dTys g) s) (hP : va_P g.1 vwCl ((a, e0) :: (q, .inl (cB, n0, .inr (.inr (.inr (.inr f))))) :: tl) H) (hD : va_D A ((a, e0) :: (q, .inl (cB, n0, .inr (.inr (.inr (.inr f))))) :: tl)) (hS : va_S A s.heap H locs)
    (hv : (v, .inr (ci, vs)) ∈ tl) (hc : vwCl[ci]? = some r) (ht : (dTys g)[t0]? = some (cB, .object r.1)) (hin : vp_in j n0) (hdg : decode cc pc = .ok (.aastore, 1))
    (kk : ∀ (H1 : Heap) (locs1 : List Loc), va_P g.1 vwCl ((a, e0) :: (q, .inl (cB, n0, .inr (.inr (.inr (.inr (va_up f j.toNatClampNeg (some v))))))) :: tl) H1 → va_D A ((a, e0) :: (q, .inl (cB, n0, .inr (.inr (.inr (.inr (va_up f j.toNatClampNeg (some v))))))) :: tl) → va_S A s.heap H1 locs1 → W p l e R s m args below meth c H1 locs1 cells slots Q (F0 m (pc + 1) ls rest)) : W p l e R s m args below meth c H locs cells slots Q (F0 m pc ls (.ref v :: .int j :: .ref q :: rest)) := by
  obtain ⟨k, hk⟩ := List.getElem?_of_mem hv
  exact va_astq S.1 S.2.1 hK hP hD hS 1 t0 (k + 2) ci rfl ht hk hc hin hdg (fun H1 l1 h1 h2 h3 => kk H1 l1 h1 h2 h3)
theorem d_fin {ws : va_W} {ids : List Nat} {ad : Nat → Nat} {id n a sz : Nat} (hws : ws = dWL g ad m0 ids) (hin : ∀ i, id ≤ i → i < id + n → i ∈ ids) (ha : ad id = a) (hnd : ids.Nodup) (hP : va_P g.1 vwCl ws H) (hD : va_D (dAc a sz) ws) : dGd ad a sz id n ∧ va_P g.1 vwCl (dWL g ad m0 (List.range' id n)) H := by
  subst hws
  have at1 : ∀ i, i ∈ ids → ∃ k, ids[k]? = some i ∧ (dWL g ad m0 ids)[k]? = some (ad i, dct (dga g ad) m0 i) := fun i hi => by
    obtain ⟨k, hk⟩ := List.getElem?_of_mem hi
    exact ⟨k, hk, by unfold dWL; rw [List.getElem?_map, hk]; rfl⟩
  have inj : ∀ i j, i ∈ ids → j ∈ ids → ad i = ad j → i = j := fun i j hi hj e => by
    obtain ⟨k1, h1, h2⟩ := at1 i hi
    obtain ⟨k2, h3, h4⟩ := at1 j hj
    have := hD.1 k1 k2 _ _ h2 h4 e
    subst this
    exact Option.some.inj (h1.symm.trans h3)
  refine ⟨⟨ha, fun i j h1 h2 h3 h4 e => inj i j (hin i h1 h2) (hin j h3 h4) e, fun i h1 h2 => ?_⟩, fun k x hx => ?_⟩
  · obtain ⟨k, -, hk⟩ := at1 i (hin i (by omega) h2)
    rcases hD.2 k _ hk with h | h
    · exfalso
      have := inj i id (hin i (by omega) h2) (hin id (by omega) (by omega)) (h.trans ha.symm)
      omega
    · exact h
  · unfold dWL at hx
    rw [List.getElem?_map] at hx
    rcases Nat.lt_or_ge k n with hk | hk
    · rw [List.getElem?_range' (by omega)] at hx
      simp at hx
      subst hx
      obtain ⟨k2, -, h2⟩ := at1 (id + k) (hin (id + k) (by omega) (by omega))
      exact hP k2 _ h2
    · rw [List.getElem?_eq_none (by simpa using hk)] at hx
      cases hx
theorem d_tc {ws : va_W} {ids : List Nat} {ad : Nat → Nat} {id n a k1 k2 : Nat} (S : CallFix p m c cc nL s args Ts own) (hr : meth.sig.returnType = none) (hlk : meth.locks = false) (hws : ws = dWL g ad m0 ids) (hin : ∀ i, id ≤ i → i < id + n → i ∈ ids) (ha : ad id = a) (hnd : ids.Nodup) (hP : va_P g.1 vwCl ws H) (hD : va_D (dAc a s.heap.size) ws) (hS : va_S (dAc a s.heap.size) s.heap H locs) (hc : cells ≤ k1) (hs : slots ≤ k2) (hdg : decode cc pc = .ok (.return_, 1)) :
    W p l e R s m args below meth c H locs cells slots (MQ below (dCQ g m0 id n a s.heap.size) args s k1 k2 (dAc a s.heap.size)) (F0 m pc ls []) := by
  obtain ⟨h1, h2⟩ := d_fin hws hin ha hnd hP hD
  exact W.widen hc hs (W.vret S.1 S.2.1 hr (fun t ht hW => ⟨⟨ad, rfl, h1, by show va_P g.1 vwCl _ t.heap; rw [ht]; exact h2⟩, hS.F ht⟩) hS.2.2 hdg hlk)
theorem d_mix {ad ad1 : Nat → Nat} {L : List Nat} {id n : Nat} (ha : dApart L id n) (hP : va_P g.1 vwCl ((X ++ dWL g ad mm L) ++ dWL g ad1 mm (List.range' id n)) H) (hD : va_D A ((X ++ dWL g ad mm L) ++ dWL g ad1 mm (List.range' id n))) : va_P g.1 vwCl (X ++ dWL g (dmix ad ad1 id n) mm (L ++ List.range' id n)) H ∧ va_D A (X ++ dWL g (dmix ad ad1 id n) mm (L ++ List.range' id n)) := by
  rw [List.append_assoc, dWL_app ha] at hP hD
  exact ⟨hP, hD⟩
end DN
