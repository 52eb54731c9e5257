theorem zGo_so {N k : Nat} {sx sy : Nat → Nat → Int} {so so' : Nat → Nat} {lt lt' : Nat → Bool} {go : Nat → Nat → Nat} {i : Nat} (h1 : so' i = so i) (h2 : so' (i - 1) = so (i - 1)) (h3 : lt' i = lt i) (h : zGo N sx sy so lt go i) : zGo N sx sy so' lt' go i := by
  unfold zGo at *
  have e : zW sx sy so' go i = zW sx sy so go i := by funext d p; unfold zW zX; rw [h1, h2]
  rw [e, h3]; exact h
theorem zPx_so {N : Nat} {sx sy : Nat → Nat → Int} {so so' : Nat → Nat} {go : Nat → Nat → Nat} {m : dM} {i : Nat} (h1 : so' i = so i) (h2 : so' (i - 1) = so (i - 1)) (h : zPx N sx sy so go m i) : zPx N sx sy so' go m i := fun d hd => by
  unfold zX
  rw [h1, h2]; exact h d hd
theorem fX5_tell_ok {m : dM} {k : Nat} (hk : k < 12) {a b c : Int32} {l : Bool} : fX5_tell m (49 + 8 * k) a b c (zB l) = some (d1 (d1 (d1 (d1 m (49 + 8 * k) 3 a) (49 + 8 * k) 4 b) (49 + 8 * k) 5 c) (49 + 8 * k) 6 (zB l)) := by
  unfold fX5_tell
  rw [dg_ok (kPart hk), dlet_v, dlet_v, dlet_v, dg_ok (zB_dB l)]; rfl
theorem zTell {N S P k s : Nat} {c t : Int} {l : Bool} {sx sy : Nat → Nat → Int} {so : Nat → Nat} {co te : Nat → Int} {lt : Nat → Bool} {go : Nat → Nat → Nat} {m : dM} (hN2 : 2 ≤ N) (hN : N ≤ 10) (hs : zSr N S sx sy) (hsc : zSc N S sx sy m) (hP : P ≤ 12) (hk : k < P) (h3 : m.1 47 3 = Int32.ofInt (P : Int)) (hss : s < S) (hc : 1 ≤ c ∧ c ≤ 64) (ht : 60 ≤ t ∧ t ≤ 240)
    (hcell : ∀ i, i < P → i ≠ k → (so i < S ∧ 1 ≤ co i ∧ co i ≤ 64 ∧ 60 ≤ te i ∧ te i ≤ 240) ∧ m.1 (49 + 8 * i) 3 = Int32.ofInt (so i : Nat) ∧ m.1 (49 + 8 * i) 4 = Int32.ofInt (co i) ∧ m.1 (49 + 8 * i) 5 = Int32.ofInt (te i) ∧ m.1 (49 + 8 * i) 6 = zB (lt i))
    (hpre : ∀ i, i < k → zGo N sx sy so lt go i ∧ (∀ d, d < N → go i d < N) ∧ zPx N sx sy so go m i) : ∃ (M : dM) (go' : Nat → Nat → Nat), fX8_findFrom (d1 (d1 (d1 (d1 m (49 + 8 * k) 3 (Int32.ofInt (s : Int))) (49 + 8 * k) 4 (Int32.ofInt c)) (49 + 8 * k) 5 (Int32.ofInt t)) (49 + 8 * k) 6 (zB l)) 47 (Int32.ofInt (k : Int)) 6 (Int32.ofInt (N : Int)) = some M ∧ (∀ a, a < 49 ∨ (145 ≤ a ∧ a < 153) ∨ 171 ≤ a → M.1 a = m.1 a) ∧ (∀ a, a < 153 ∨ 171 ≤ a → M.2 a = m.2 a) ∧ zPr N S P sx sy (zUp so k s) (zUp co k c) (zUp te k t) (zUp lt k l) go' ∧ zPc N P sx sy (zUp so k s) (zUp co k c) (zUp te k t) (zUp lt k l) go' M := by
  have hS := hs.1
  have T : ∀ a, a ≠ 49 + 8 * k → (d1 (d1 (d1 (d1 m (49 + 8 * k) 3 (Int32.ofInt (s : Int))) (49 + 8 * k) 4 (Int32.ofInt c)) (49 + 8 * k) 5 (Int32.ofInt t)) (49 + 8 * k) 6 (zB l)).1 a = m.1 a := fun a ha => by
    rw [zd1_ne ha, zd1_ne ha, zd1_ne ha, zd1_ne ha]
  have T3 : (d1 (d1 (d1 (d1 m (49 + 8 * k) 3 (Int32.ofInt (s : Int))) (49 + 8 * k) 4 (Int32.ofInt c)) (49 + 8 * k) 5 (Int32.ofInt t)) (49 + 8 * k) 6 (zB l)).1 (49 + 8 * k) 3 = Int32.ofInt (s : Int) := by rw [zd1_nk (by decide), zd1_nk (by decide), zd1_nk (by decide), zd1_at]
  have T4 : (d1 (d1 (d1 (d1 m (49 + 8 * k) 3 (Int32.ofInt (s : Int))) (49 + 8 * k) 4 (Int32.ofInt c)) (49 + 8 * k) 5 (Int32.ofInt t)) (49 + 8 * k) 6 (zB l)).1 (49 + 8 * k) 4 = Int32.ofInt c := by rw [zd1_nk (by decide), zd1_nk (by decide), zd1_at]
  have T5 : (d1 (d1 (d1 (d1 m (49 + 8 * k) 3 (Int32.ofInt (s : Int))) (49 + 8 * k) 4 (Int32.ofInt c)) (49 + 8 * k) 5 (Int32.ofInt t)) (49 + 8 * k) 6 (zB l)).1 (49 + 8 * k) 5 = Int32.ofInt t := by rw [zd1_nk (by decide), zd1_at]
  have T6 : (d1 (d1 (d1 (d1 m (49 + 8 * k) 3 (Int32.ofInt (s : Int))) (49 + 8 * k) 4 (Int32.ofInt c)) (49 + 8 * k) 5 (Int32.ofInt t)) (49 + 8 * k) 6 (zB l)).1 (49 + 8 * k) 6 = zB l := zd1_at
  have T2 : (d1 (d1 (d1 (d1 m (49 + 8 * k) 3 (Int32.ofInt (s : Int))) (49 + 8 * k) 4 (Int32.ofInt c)) (49 + 8 * k) 5 (Int32.ofInt t)) (49 + 8 * k) 6 (zB l)).2 = m.2 := rfl
  generalize d1 (d1 (d1 (d1 m (49 + 8 * k) 3 (Int32.ofInt (s : Int))) (49 + 8 * k) 4 (Int32.ofInt c)) (49 + 8 * k) 5 (Int32.ofInt t)) (49 + 8 * k) 6 (zB l) = m' at *
  have cells : ∀ i, i < P → (zUp so k s i < S ∧ 1 ≤ zUp co k c i ∧ zUp co k c i ≤ 64 ∧ 60 ≤ zUp te k t i ∧ zUp te k t i ≤ 240) ∧ m'.1 (49 + 8 * i) 3 = Int32.ofInt (zUp so k s i : Nat) ∧ m'.1 (49 + 8 * i) 4 = Int32.ofInt (zUp co k c i) ∧ m'.1 (49 + 8 * i) 5 = Int32.ofInt (zUp te k t i) ∧ m'.1 (49 + 8 * i) 6 = zB (zUp lt k l i) := fun i hi => by
    by_cases z : i = k
    · subst z
      rw [zUp_at, zUp_at, zUp_at, zUp_at]
      exact ⟨⟨hss, hc.1, hc.2, ht.1, ht.2⟩, T3, T4, T5, T6⟩
    · rw [zUp_ne z, zUp_ne z, zUp_ne z, zUp_ne z, T _ (by omega)]
      exact hcell i hi z
  obtain ⟨M, go', e, w1, w2, w3, w4⟩ := fX8_findFrom_ok (first := k) (so := zUp so k s) (lt := zUp lt k l) (go0 := go) hN2 hN hs (hsc.to hS (fun a q1 q2 => T a (by omega))) hP (by omega) (by rw [T 47 (by omega)]; exact h3) (fun i hi => ⟨(cells i hi).1.1, (cells i hi).2.1, (cells i hi).2.2.2.2⟩) (fun i hi => by
    obtain ⟨g1, g2, g3⟩ := hpre i hi
    refine ⟨zGo_so (k := k) (zUp_ne (by omega)) (zUp_ne (by omega)) (zUp_ne (by omega)) g1, g2, zPx_so (zUp_ne (by omega)) (zUp_ne (by omega)) (fun d hd => ?_)⟩
    rw [T _ (by omega), T _ (by omega), T _ (by omega), T _ (by omega), T _ (by omega)]; exact g3 d hd)
  refine ⟨M, go', e, fun a ha => by rw [w1 a ha, T a (by omega)], fun a ha => by rw [w3 a ha, T2], ⟨hP, fun i hi => ?_⟩, ⟨by rw [w1 47 (by omega), T 47 (by omega)]; exact h3, fun i hi => ?_⟩⟩
  · obtain ⟨⟨c1, c2, c3, c4, c5⟩, _⟩ := cells i hi
    obtain ⟨g1, g2, _⟩ := w4 i hi
    exact ⟨c1, c2, c3, c4, c5, g1, g2⟩
  · obtain ⟨_, c6, c7, c8, c9⟩ := cells i hi
    rw [w2 i hi]
    exact ⟨c6, c7, c8, c9, fun d hd => (w4 i hi).2.2 d hd⟩
