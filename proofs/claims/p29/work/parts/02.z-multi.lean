/-! ===== BEGIN new T[n][m]: the outer array a place, the inner ones among the pooled ===== -/
/-- f, but v at every address of l -/
def vr_up {α : Type} (f : Nat → α) (l : List Nat) (v : α) : Nat → α := fun a => if a ∈ l then v else f a
theorem vr_up_in {α : Type} {f : Nat → α} {l : List Nat} {v : α} {a : Nat} (h : a ∈ l) : vr_up f l v a = v := if_pos h
theorem vr_up_ne {α : Type} {f : Nat → α} {l : List Nat} {v : α} {a : Nat} (h : a ∉ l) : vr_up f l v a = f a := if_neg h
theorem vr_rows {L l : List Nat} {f : Nat → va_E} {e : va_E} (h : ∀ a, a ∈ l → a ∉ L) : va_pl L f ++ l.map (fun a => (a, e)) = va_pl (L ++ l) (vr_up f l e) := by
  unfold va_pl
  rw [List.map_append]
  congr 1
  · apply List.map_congr_left
    intro a ha
    rw [vr_up_ne (fun q => h a q ha)]
  · apply List.map_congr_left
    intro a ha
    rw [vr_up_in ha]
theorem vr_lay {X rows : va_W} {x : Nat × va_E} {pl : va_W} {D : va_G} {cl : List vw_C} {H : Heap} (hP : va_P D cl (((X ++ pl) ++ [x]) ++ rows) H) : va_P D cl ((X ++ [x]) ++ (pl ++ rows)) H := by
  rw [List.append_assoc (X ++ pl)] at hP
  have h := va_P.swap hP
  rw [← List.append_assoc X] at h
  have h2 := va_P.swap h
  rw [List.append_assoc (X ++ [x])] at h2
  exact h2
theorem vr_layD {X rows : va_W} {x : Nat × va_E} {pl : va_W} {A : Nat → Prop} (hD : va_D A (((X ++ pl) ++ [x]) ++ rows)) : va_D A ((X ++ [x]) ++ (pl ++ rows)) := by
  rw [List.append_assoc (X ++ pl)] at hD
  have h := va_D.swap hD
  rw [← List.append_assoc X] at h
  have h2 := va_D.swap h
  rw [List.append_assoc (X ++ [x])] at h2
  exact h2
theorem vr_outer (c : ClassId) (N h0 : Nat) : ∀ i : Nat, Jvm.Free.Multi.outerC c N h0 i = arrV c N (fun j => va_rf (if j < i then some (h0 + 1 + j) else none))
  | 0 => by
    show ({ cls := c, slots := Array.replicate N .null, vm := .none } : Cell) = _
    rw [arrV_new]
    refine congrArg (arrV c N) (funext fun j => ?_)
    simp [va_rf]
  | i + 1 => by
    show (Jvm.Free.Multi.outerC c N h0 i).setSlot i (.ref (h0 + 1 + i)) = _
    rw [vr_outer c N h0 i, arrV_store]
    refine congrArg (arrV c N) (funext fun j => ?_)
    by_cases e : j = i
    · subst e
      simp [updV, va_rf]
    · by_cases h : j < i
      · simp [updV, e, h, Nat.lt_succ_of_lt h]
      · simp [updV, e, h, show ¬ j < i + 1 by omega]
section VGM
variable {p : Program} {l : Launch} {e : Env} {R : Room} {s : State} {m : MethodId} {args : Array Value} {below : List Frame} {meth : Method} {c : Code} {H : Heap} {locs : List Loc} {cells slots : Nat} {Q : State → Prop}
variable {cc : ByteArray} {pc : Nat} {ls : Array Slot} {rest : List Value} {D : va_G} {cl : List vw_C} {A : Nat → Prop} {a : Nat} {tys : List (ClassId × FieldType)} {ws : va_W} {H0 : Heap}
theorem va_mna {X : va_W} {L : List Nat} {f : Nat → va_E} {cc : ByteArray} (hexec : p.tables.exec = Jvm.exec) (hb : c.code = cc) {own : String} {index : Nat} {ty : FieldType} {cy : ClassId} (hown : s.vm.findClass own = some m.cls) (hclink : (Cond.classLink own index ("[" ++ (FieldType.array ty).toString)).before args s = true) (hover : (Cond.arrayOver (.array ty)).before args s = true) (harr : (Cond.arrayClass ty).before args s = true) (hcy : s.vm.findClass (FieldType.array ty).toString = some cy)
    (hK : va_K D cl tys s) (hP : va_P D cl (X ++ va_pl L f) H) (hD : va_D A (X ++ va_pl L f)) (hS : va_S A H0 H locs) (hA : ∀ q, H0.size ≤ q → A q) {n k : Int32} {N' K' : Nat} {z : vp_A} (hn : ¬ n < 0) (hk : ¬ k < 0) (hN : n.toNatClampNeg = N') (hM : k.toNatClampNeg = K')
    (hb1 : N' * 4 ≤ 536870912) (hb2 : K' * componentBytes ty ≤ 536870912) (hb3 : K' ≤ 536870912) (hdf : fits ty (defaultValue ty) = true) (hdd : (defaultValue ty).isDefault = true) (hcells : cells + (1 + N') ≤ R.cells) (hslots : slots + (N' + N' * K') ≤ R.slots) (hz : ∀ c : ClassId, Jvm.Free.Multi.innerC c K' (defaultValue ty) = vp_cell c z) (hdg : decode cc pc = .ok (.multianewarray index 2, 4))
    (kk : ∀ (q : Nat) (r : Nat → Nat) (cA : ClassId) (H1 : Heap), (∀ i j : Nat, i < N' → j < N' → r i = r j → i = j) → (∀ i : Nat, i < N' → r i ∉ L) → va_K D cl (tys ++ [(cA, .array ty)]) s →
      va_P D cl ((X ++ [(q, .inl (cA, N', .inr (.inr (.inr (.inr (fun i => if i < N' then some (r i) else none))))))]) ++ va_pl (L ++ (List.range N').map r) (vr_up f ((List.range N').map r) (.inl (cy, z)))) H1 → va_D A ((X ++ [(q, .inl (cA, N', .inr (.inr (.inr (.inr (fun i => if i < N' then some (r i) else none))))))]) ++ va_pl (L ++ (List.range N').map r) (vr_up f ((List.range N').map r) (.inl (cy, z)))) → va_S A H0 H1 locs →
      W p l e R s m args below meth c H1 locs (cells + 1 + N') (slots + N' + N' * K') Q (F0 m (pc + 4) ls (.ref q :: rest))) : W p l e R s m args below meth c H locs cells slots Q (F0 m pc ls (.int k :: .int n :: rest)) := by
  subst hN
  subst hM
  intro T hT Xs
  obtain ⟨vm₁, cA, comp, -, fA, fC, hO, -, X', step⟩ := Xs.multianewarray2F hexec hown hclink (hover) harr (g := F0 m pc ls (.int k :: .int n :: rest)) rfl (by rw [hb]; exact hdg) rfl hn hk hb1 hb2 hb3 hdf hdd hcells hslots
  have ec : some cy = some comp := hcy.symm.trans fC
  cases ec
  generalize hF : Jvm.Free.Multi.fill (T.setVm vm₁) cA cy n.toNatClampNeg k.toNatClampNeg (defaultValue ty) n.toNatClampNeg = F at X' step
  have hTh : (T.setVm vm₁).heap = H := hT
  obtain ⟨f1, f2, -, -⟩ := Jvm.Free.Multi.fill_facts (T.setVm vm₁) cA cy n.toNatClampNeg k.toNatClampNeg (defaultValue ty) n.toNatClampNeg
  rw [hF, hTh] at f1 f2
  have hold : ∀ x : Nat, x < H.size → F.heap[x]? = H[x]? := fun x hx => by
    have := Jvm.Free.Multi.fill_old (T.setVm vm₁) cA cy n.toNatClampNeg k.toNatClampNeg (defaultValue ty) (a := x) (by rw [hTh]; exact hx) n.toNatClampNeg
    rw [hF, hTh] at this
    exact this
  have hrow : ∀ j : Nat, j < n.toNatClampNeg → F.heap[H.size + 1 + j]? = some (vp_cell cy z) := fun j hj => by
    have := Jvm.Free.Multi.fill_inner (T.setVm vm₁) cA cy n.toNatClampNeg k.toNatClampNeg (defaultValue ty) n.toNatClampNeg j hj
    rw [hF, hTh, hz] at this
    exact this
  have hout : Jvm.Free.Multi.outerC cA n.toNatClampNeg H.size n.toNatClampNeg = vp_cell cA (n.toNatClampNeg, .inr (.inr (.inr (.inr (fun i => if i < n.toNatClampNeg then some (H.size + 1 + i) else none))))) := by
    rw [vp_cell_q]
    exact vr_outer cA n.toNatClampNeg H.size n.toNatClampNeg
  rw [hout] at f2
  have hlt : ∀ a, a ∈ L → a < H.size := fun a ha => by
    obtain ⟨k9, hk9⟩ := va_pl_get (X := X) (f := f) ha
    exact (hP k9 _ hk9).lt
  have hnl : ∀ i : Nat, i < n.toNatClampNeg → H.size + 1 + i ∉ L := fun i _ h => by
    have := hlt _ h
    omega
  have hnm : ∀ a, a ∈ (List.range n.toNatClampNeg).map (fun i => H.size + 1 + i) → a ∉ L := fun a ha h => by
    obtain ⟨i, -, rfl⟩ := List.mem_map.mp ha
    have := hlt _ h
    omega
  have hP0 : va_P D cl (X ++ va_pl L f) F.heap := hP.kept (fun k9 x hx => hold x.1 ((hP k9 x hx).lt))
  have hP1 : va_P D cl ((X ++ va_pl L f) ++ [(H.size, .inl (cA, n.toNatClampNeg, .inr (.inr (.inr (.inr (fun i => if i < n.toNatClampNeg then some (H.size + 1 + i) else none))))))]) F.heap := hP0.app (fun k9 x hx => by
    have h0 : k9 < 1 := (List.getElem?_eq_some_iff.mp hx).1
    rw [show k9 = 0 by omega] at hx
    cases hx
    exact f2)
  have hP2 : va_P D cl (((X ++ va_pl L f) ++ [(H.size, .inl (cA, n.toNatClampNeg, .inr (.inr (.inr (.inr (fun i => if i < n.toNatClampNeg then some (H.size + 1 + i) else none))))))]) ++ ((List.range n.toNatClampNeg).map (fun i => H.size + 1 + i)).map (fun a => (a, .inl (cy, z)))) F.heap := hP1.app (fun k9 x hx => by
    obtain ⟨a, ha, rfl⟩ := List.mem_map.mp (List.mem_of_getElem? hx)
    obtain ⟨i, hi, rfl⟩ := List.mem_map.mp ha
    exact hrow i (List.mem_range.mp hi))
  have hD2 : va_D A (((X ++ va_pl L f) ++ [(H.size, .inl (cA, n.toNatClampNeg, .inr (.inr (.inr (.inr (fun i => if i < n.toNatClampNeg then some (H.size + 1 + i) else none))))))]) ++ ((List.range n.toNatClampNeg).map (fun i => H.size + 1 + i)).map (fun a => (a, .inl (cy, z)))) := by
    have hD1 := hD.push (e := .inl (cA, n.toNatClampNeg, .inr (.inr (.inr (.inr (fun i => if i < n.toNatClampNeg then some (H.size + 1 + i) else none)))))) hP rfl (hA _ hS.1)
    generalize hW1 : (X ++ va_pl L f) ++ [(H.size, .inl (cA, n.toNatClampNeg, .inr (.inr (.inr (.inr (fun i => if i < n.toNatClampNeg then some (H.size + 1 + i) else none))))))] = W1 at hD1 hP1 ⊢
    have hle : ∀ (k9 : Nat) (x : Nat × va_E), W1[k9]? = some x → x.1 ≤ H.size := fun k9 x hx => by
      rw [← hW1] at hx
      by_cases hl : k9 < (X ++ va_pl L f).length
      · rw [List.getElem?_append_left hl] at hx
        exact Nat.le_of_lt ((hP k9 x hx).lt)
      · rw [List.getElem?_append_right (by omega)] at hx
        have h0 : k9 - (X ++ va_pl L f).length < 1 := (List.getElem?_eq_some_iff.mp hx).1
        rw [show k9 - (X ++ va_pl L f).length = 0 by omega] at hx
        cases hx
        exact Nat.le_refl _
    have hr : ∀ (k9 : Nat) (x : Nat × va_E), (((List.range n.toNatClampNeg).map (fun i => H.size + 1 + i)).map (fun a => ((a, .inl (cy, z)) : Nat × va_E)))[k9]? = some x → x.1 = H.size + 1 + k9 := fun k9 x hx => by
      rw [List.getElem?_map, List.getElem?_map] at hx
      by_cases h9 : k9 < n.toNatClampNeg
      · rw [List.getElem?_range h9] at hx
        cases hx
        rfl
      · have hn0 : (List.range n.toNatClampNeg)[k9]? = none := List.getElem?_eq_none (by rw [List.length_range]; omega)
        rw [hn0] at hx
        cases hx
    refine ⟨fun i j x y hi hj hxy => ?_, fun k9 x hx => ?_⟩
    · by_cases h1 : i < W1.length <;> by_cases h2 : j < W1.length
      · rw [List.getElem?_append_left h1] at hi
        rw [List.getElem?_append_left h2] at hj
        exact hD1.1 i j x y hi hj hxy
      · rw [List.getElem?_append_left h1] at hi
        rw [List.getElem?_append_right (by omega)] at hj
        have := hle _ _ hi
        have := hr _ _ hj
        omega
      · rw [List.getElem?_append_right (by omega)] at hi
        rw [List.getElem?_append_left h2] at hj
        have := hle _ _ hj
        have := hr _ _ hi
        omega
      · rw [List.getElem?_append_right (by omega)] at hi hj
        have := hr _ _ hi
        have := hr _ _ hj
        omega
    · by_cases h1 : k9 < W1.length
      · rw [List.getElem?_append_left h1] at hx
        exact hD1.2 k9 x hx
      · rw [List.getElem?_append_right (by omega)] at hx
        have := hr _ _ hx
        exact hA _ (by have := hS.1; omega)
  have hAr : ArrOfT s cA (.array ty) := fun N9 z9 => by
    obtain ⟨-, k9, hk9, cm9, hkk9⟩ := (hO 0 0 0).1
    exact ⟨(fun q hq => by cases hq), k9, hk9, cm9, hkk9⟩
  have hK2 : va_K D cl (tys ++ [(cA, .array ty)]) s := ⟨hK.1, fun k9 x hx => by
    by_cases hl : k9 < tys.length
    · rw [List.getElem?_append_left hl] at hx
      exact hK.2 k9 x hx
    · rw [List.getElem?_append_right (by omega)] at hx
      have h0 : k9 - tys.length < 1 := (List.getElem?_eq_some_iff.mp hx).1
      rw [show k9 - tys.length = 0 by omega] at hx
      cases hx
      exact ⟨hAr, fA⟩⟩
  obtain ⟨t, a1, b1⟩ := kk H.size (fun i => H.size + 1 + i) cA F.heap (fun i j _ _ h => by have h9 : H.size + 1 + i = H.size + 1 + j := h; omega) hnl hK2 (by rw [← vr_rows hnm]; exact vr_lay hP2) (by rw [← vr_rows hnm]; exact vr_layD hD2) ⟨by rw [f1]; have := hS.1; omega, fun x h1 h2 => (hold x (Nat.lt_of_lt_of_le h1 hS.1)).trans (hS.2.1 x h1 h2), hS.2.2⟩ F rfl X'
  refine ⟨t, step t ?_, b1⟩
  have e : T.heap.size = H.size := by rw [hT]
  rw [e]
  exact a1
end VGM
/-! ===== END ===== -/
section DM
variable {p : Program} {l : Launch} {e : Env} {R : Room} {s : State} {m : MethodId} {args : Array Value} {below : List Frame} {meth : Method} {c : Code} {H : Heap} {locs : List Loc} {cells slots : Nat} {Q : State → Prop}
variable {g : dG} {mm m0 : dM} {cc bytes : ByteArray} {nL maxL index i k pc : Nat} {ls : Array Slot} {rest st0 : List Value} {Ts ws : List Cond} {own C host : String} {y : MethodName} {ret : Option FieldType} {rm : Room} {A : Nat → Prop} {X : va_W}
theorem dWL_multi {id N' q : Nat} {r : Nat → Nat} {cO : ClassId} {z : va_E} {f : Nat → va_E} (h0 : ∀ ad : Nat → Nat, dct (dga g ad) mm id = .inl (cO, N', .inr (.inr (.inr (.inr (fun j => if j < N' then some (ad (id + 1 + j)) else none)))))) (hr : ∀ (ad : Nat → Nat) (j : Nat), j < N' → dct (dga g ad) mm (id + 1 + j) = z) :
    ([(q, .inl (cO, N', .inr (.inr (.inr (.inr (fun i => if i < N' then some (r i) else none))))))] : va_W) ++ va_pl ((List.range N').map r) (vr_up f ((List.range N').map r) z) = dWL g (fun i => if i = id then q else r (i - (id + 1))) mm (List.range' id (N' + 1)) := by
  rw [List.range'_succ]
  show _ = (if id = id then q else r (id - (id + 1)), dct (dga g _) mm id) :: dWL g (fun i => if i = id then q else r (i - (id + 1))) mm (List.range' (id + 1) N')
  rw [h0, if_pos rfl]
  refine List.cons_eq_cons.mpr ⟨?_, ?_⟩
  · refine congrArg (fun f => (q, (.inl (cO, N', .inr (.inr (.inr (.inr f)))) : va_E))) (funext fun j => ?_)
    by_cases hj : j < N'
    · rw [if_pos hj, if_pos hj, if_neg (show ¬ id + 1 + j = id by omega), show id + 1 + j - (id + 1) = j by omega]
    · rw [if_neg hj, if_neg hj]
  · show va_pl _ _ = _
    unfold va_pl dWL
    rw [List.range'_eq_map_range, List.map_map, List.map_map]
    apply List.map_congr_left
    intro j hj
    have hj := List.mem_range.mp hj
    show (r j, vr_up f ((List.range N').map r) z (r j)) = (if id + 1 + j = id then q else r (id + 1 + j - (id + 1)), dct (dga g _) mm (id + 1 + j))
    rw [vr_up_in (List.mem_map.mpr ⟨j, List.mem_range.mpr hj, rfl⟩), hr _ j hj, if_neg (show ¬ id + 1 + j = id by omega), show id + 1 + j - (id + 1) = j by omega]

theorem d_newAI (id : Nat) {n k9 : Int32} {N' K' : Nat} (hk : dK id = 25) (hL : dL id = N') (hz : ∀ j, j < N' → dK (id + 1 + j) = 20 ∧ dL (id + 1 + j) = K' ∧ mm.1 (id + 1 + j) = fun _ => 0) (S : CallFix p m c cc nL s args Ts own) (hcl : (Cond.classLink own index ("[" ++ (FieldType.array .int).toString)).before args s = true) (hov : dAOA .int s) (harr : (Cond.arrayClass .int).before args s = true) (hK : va_K g.1 vwCl (dTys g) s) (hP : va_P g.1 vwCl X H) (hD : va_D A X) (hS : va_S A s.heap H locs) (hA : ∀ q, s.heap.size ≤ q → A q)
    (hn : ¬ n < 0) (hn2 : ¬ k9 < 0) (hN : n.toNatClampNeg = N') (hN2 : k9.toNatClampNeg = K') (hb1 : N' * 4 ≤ 536870912) (hb2 : K' * componentBytes .int ≤ 536870912) (hb3 : K' ≤ 536870912) (hc : cells + (1 + N') ≤ R.cells) (hs : slots + (N' + N' * K') ≤ R.slots) (hdg : decode cc pc = .ok (.multianewarray index 2, 4))
    (kk : ∀ (ad1 : Nat → Nat) (H1 : Heap), va_P g.1 vwCl (X ++ dWL g ad1 mm (List.range' id (N' + 1))) H1 → va_D A (X ++ dWL g ad1 mm (List.range' id (N' + 1))) → va_S A s.heap H1 locs → W p l e R s m args below meth c H1 locs (cells + 1 + N') (slots + N' + N' * K') Q (F0 m (pc + 4) ls (.ref (ad1 id) :: rest))) : W p l e R s m args below meth c H locs cells slots Q (F0 m pc ls (.int k9 :: .int n :: rest)) := by
  refine va_mna (X := X) (L := []) (f := fun _ => .inl (0, 0, .inl fun _ => 0)) (z := (K', .inl (fun _ => 0))) S.1 S.2.1 S.2.2.2.1 hcl hov harr (cy := dcy g 0) (hK.2 0 _ rfl).2 hK (by rw [show X ++ va_pl [] (fun _ => (.inl (0, 0, .inl fun _ => 0) : va_E)) = X from List.append_nil X]; exact hP) (by rw [show X ++ va_pl [] (fun _ => (.inl (0, 0, .inl fun _ => 0) : va_E)) = X from List.append_nil X]; exact hD) hS hA hn hn2 hN hN2 hb1 hb2 hb3 rfl rfl hc hs (fun c => by first | rfl | (rw [Jvm.Free.Multi.innerC]; exact arrV_new _ _ _) | (unfold Jvm.Free.Multi.innerC; rw [vp_cell_i, arrV_new]) | (unfold Jvm.Free.Multi.innerC; simp [vp_cell, arrV_new]; done) | (simp [Jvm.Free.Multi.innerC, vp_cell, ← arrV_new]; done)) hdg (fun q r cA H1 hinj hnot hK1 hP1 hD1 hS1 => ?_)
  obtain rfl := dty_eq 5 rfl hK hK1
  rw [List.nil_append, List.append_assoc, dWL_multi (g := g) (mm := mm) (fun ad => by rw [dck25 hk, hL]) (fun ad j hj => by rw [dck20 (hz j hj).1, (hz j hj).2.1, (hz j hj).2.2])] at hP1 hD1
  refine W.eq ?_ (kk _ H1 hP1 hD1 hS1)
  rw [if_pos rfl]
theorem d_newAJ (id : Nat) {n k9 : Int32} {N' K' : Nat} (hk : dK id = 26) (hL : dL id = N') (hz : ∀ j, j < N' → dK (id + 1 + j) = 22 ∧ dL (id + 1 + j) = K' ∧ mm.2 (id + 1 + j) = fun _ => 0) (S : CallFix p m c cc nL s args Ts own) (hcl : (Cond.classLink own index ("[" ++ (FieldType.array .long).toString)).before args s = true) (hov : dAOA .long s) (harr : (Cond.arrayClass .long).before args s = true) (hK : va_K g.1 vwCl (dTys g) s) (hP : va_P g.1 vwCl X H) (hD : va_D A X) (hS : va_S A s.heap H locs) (hA : ∀ q, s.heap.size ≤ q → A q)
    (hn : ¬ n < 0) (hn2 : ¬ k9 < 0) (hN : n.toNatClampNeg = N') (hN2 : k9.toNatClampNeg = K') (hb1 : N' * 4 ≤ 536870912) (hb2 : K' * componentBytes .long ≤ 536870912) (hb3 : K' ≤ 536870912) (hc : cells + (1 + N') ≤ R.cells) (hs : slots + (N' + N' * K') ≤ R.slots) (hdg : decode cc pc = .ok (.multianewarray index 2, 4))
    (kk : ∀ (ad1 : Nat → Nat) (H1 : Heap), va_P g.1 vwCl (X ++ dWL g ad1 mm (List.range' id (N' + 1))) H1 → va_D A (X ++ dWL g ad1 mm (List.range' id (N' + 1))) → va_S A s.heap H1 locs → W p l e R s m args below meth c H1 locs (cells + 1 + N') (slots + N' + N' * K') Q (F0 m (pc + 4) ls (.ref (ad1 id) :: rest))) : W p l e R s m args below meth c H locs cells slots Q (F0 m pc ls (.int k9 :: .int n :: rest)) := by
  refine va_mna (X := X) (L := []) (f := fun _ => .inl (0, 0, .inl fun _ => 0)) (z := (K', .inr (.inl (fun _ => 0)))) S.1 S.2.1 S.2.2.2.1 hcl hov harr (cy := dcy g 2) (hK.2 2 _ rfl).2 hK (by rw [show X ++ va_pl [] (fun _ => (.inl (0, 0, .inl fun _ => 0) : va_E)) = X from List.append_nil X]; exact hP) (by rw [show X ++ va_pl [] (fun _ => (.inl (0, 0, .inl fun _ => 0) : va_E)) = X from List.append_nil X]; exact hD) hS hA hn hn2 hN hN2 hb1 hb2 hb3 rfl rfl hc hs (fun c => by first | rfl | (rw [Jvm.Free.Multi.innerC]; exact arrV_new _ _ _) | (unfold Jvm.Free.Multi.innerC; rw [vp_cell_i, arrV_new]) | (unfold Jvm.Free.Multi.innerC; simp [vp_cell, arrV_new]; done) | (simp [Jvm.Free.Multi.innerC, vp_cell, ← arrV_new]; done)) hdg (fun q r cA H1 hinj hnot hK1 hP1 hD1 hS1 => ?_)
  obtain rfl := dty_eq 6 rfl hK hK1
  rw [List.nil_append, List.append_assoc, dWL_multi (g := g) (mm := mm) (fun ad => by rw [dck26 hk, hL]) (fun ad j hj => by rw [dck22 (hz j hj).1, (hz j hj).2.1, (hz j hj).2.2])] at hP1 hD1
  refine W.eq ?_ (kk _ H1 hP1 hD1 hS1)
  rw [if_pos rfl]
end DM
def dApB (L : List Nat) (c n : Nat) : Bool := (L.all fun i => (decide (i < c) || decide (c + n ≤ i)) && (dRf i).all fun j => decide (j < c) || decide (c + n ≤ j)) && (List.range' c n).all fun i => (dRf i).all fun j => decide (c ≤ j) && decide (j < c + n)
theorem dAp_of {L : List Nat} {c n : Nat} (h : dApB L c n = true) : dApart L c n := by
  unfold dApB at h
  rw [Bool.and_eq_true] at h
  refine ⟨fun i hi => ?_, fun i h1 h2 j hj => ?_⟩
  · have := List.all_eq_true.mp h.1 i hi
    rw [Bool.and_eq_true] at this
    refine ⟨?_, fun j hj => ?_⟩
    · have h3 := this.1; simp at h3; omega
    · have h3 := List.all_eq_true.mp this.2 j hj; simp at h3; omega
  · have := List.all_eq_true.mp h.2 i (List.mem_range'_1.mpr ⟨h1, h2⟩)
    have h3 := List.all_eq_true.mp this j hj
    simp at h3; omega
theorem dRf_arr {i : Nat} (h : dK i = 20 ∨ dK i = 21 ∨ dK i = 22) : dRf i = [] := by
  rcases h with h | h | h <;> simp [dRf, h]
theorem dRf_10 {i : Nat} (h : dK i = 10) : dRf i = [i + 1, i + 2] := by simp [dRf, h]
theorem dI_arr {i : Nat} (h : dK i = 20 ∨ dK i = 21 ∨ dK i = 22) (h2 : i ≠ 435 ∧ i ≠ 1 ∧ i ≠ 2 ∧ i ≠ 445 ∧ i ≠ 4 ∧ i ≠ 447 ∧ i ≠ 444) : dI.1 i = fun _ => 0 := by
  funext k
  have h6 : dK i ≠ 6 := by rcases h with h | h | h <;> rw [h] <;> decide
  have h3 : dK i ≠ 3 := by rcases h with h | h | h <;> rw [h] <;> decide
  obtain ⟨a1, a2, a3, a4, a5, a6, a7⟩ := h2
  show dI1 i k = 0
  simp [dI1, h6, h3, a1, a2, a3, a4, a5, a6, a7]
/-- L names none of the ids x -/
def dNo (L xs : List Nat) : Bool := L.all fun i => !(xs.contains i) && (dRf i).all fun j => !(xs.contains j)
theorem dWL_no {g : dG} {ad ad' : Nat → Nat} {m : dM} {L xs : List Nat} (h : dNo L xs = true) (he : ∀ j, j ∉ xs → ad j = ad' j) : dWL g ad m L = dWL g ad' m L := dWL_cong (fun i hi => by
  have := List.all_eq_true.mp h i hi
  rw [Bool.and_eq_true] at this
  refine ⟨he i (by have h1 := this.1; simpa using h1), fun j hj => he j (by have h1 := List.all_eq_true.mp this.2 j hj; simpa using h1), rfl, rfl⟩)
