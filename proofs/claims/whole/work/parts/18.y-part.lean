/-! part, change: what they tell -/
theorem zGo_so {N k : Nat} {sx sy : Nat → Nat → Int} {so so' : Nat → Nat} {lt lt' : Nat → Bool} {go : Nat → Nat → Nat} {i : Nat} (h1 : so' i = so i) (h2 : so' (i - 1) = so (i - 1)) (h3 : lt' i = lt i) (h : zGo N sx sy so lt go i) : zGo N sx sy so' lt' go i := by
  unfold zGo at *
  have e : zW sx sy so' go i = zW sx sy so go i := by funext d p; unfold zW zX; rw [h1, h2]
  rw [e, h3]; exact h
theorem zPx_so {N : Nat} {sx sy : Nat → Nat → Int} {so so' : Nat → Nat} {go : Nat → Nat → Nat} {m : dM} {i : Nat} (h1 : so' i = so i) (h2 : so' (i - 1) = so (i - 1)) (h : zPx N sx sy so go m i) : zPx N sx sy so' go m i := fun d hd => by
  unfold zX
  rw [h1, h2]; exact h d hd
theorem fX5_tell_ok {m : dM} {k : Nat} (hk : k < 12) {a b c : Int32} {l : Bool} : fX5_tell m (49 + 8 * k) a b c (zB l) = some (d1 (d1 (d1 (d1 m (49 + 8 * k) 3 a) (49 + 8 * k) 4 b) (49 + 8 * k) 5 c) (49 + 8 * k) 6 (zB l)) := by
  unfold fX5_tell
  rw [dg_ok (kPart hk), dlet_v, dlet_v, dlet_v, dg_ok (zB_dB l)]; rfl
theorem zTell {N S P k s : Nat} {c t : Int} {l : Bool} {sx sy : Nat → Nat → Int} {so : Nat → Nat} {co te : Nat → Int} {lt : Nat → Bool} {go : Nat → Nat → Nat} {m : dM} (hN2 : 2 ≤ N) (hN : N ≤ 10) (hs : zSr N S sx sy) (hsc : zSc N S sx sy m) (hP : P ≤ 12) (hk : k < P) (h3 : m.1 47 3 = Int32.ofInt (P : Int)) (hss : s < S) (hc : 1 ≤ c ∧ c ≤ 64) (ht : 60 ≤ t ∧ t ≤ 240)
    (hcell : ∀ i, i < P → i ≠ k → (so i < S ∧ 1 ≤ co i ∧ co i ≤ 64 ∧ 60 ≤ te i ∧ te i ≤ 240) ∧ m.1 (49 + 8 * i) 3 = Int32.ofInt (so i : Nat) ∧ m.1 (49 + 8 * i) 4 = Int32.ofInt (co i) ∧ m.1 (49 + 8 * i) 5 = Int32.ofInt (te i) ∧ m.1 (49 + 8 * i) 6 = zB (lt i))
    (hpre : ∀ i, i < k → zGo N sx sy so lt go i ∧ (∀ d, d < N → go i d < N) ∧ zPx N sx sy so go m i) : ∃ (M : dM) (go' : Nat → Nat → Nat), fX8_findFrom (d1 (d1 (d1 (d1 m (49 + 8 * k) 3 (Int32.ofInt (s : Int))) (49 + 8 * k) 4 (Int32.ofInt c)) (49 + 8 * k) 5 (Int32.ofInt t)) (49 + 8 * k) 6 (zB l)) 47 (Int32.ofInt (k : Int)) 6 (Int32.ofInt (N : Int)) = some M ∧ (∀ a, a < 49 ∨ (145 ≤ a ∧ a < 153) ∨ 171 ≤ a → M.1 a = m.1 a) ∧ (∀ a, a < 153 ∨ 171 ≤ a → M.2 a = m.2 a) ∧ zPr N S P sx sy (zUp so k s) (zUp co k c) (zUp te k t) (zUp lt k l) go' ∧ zPc N P sx sy (zUp so k s) (zUp co k c) (zUp te k t) (zUp lt k l) go' M := by
  have hS := hs.1
  have T : ∀ a, a ≠ 49 + 8 * k → (d1 (d1 (d1 (d1 m (49 + 8 * k) 3 (Int32.ofInt (s : Int))) (49 + 8 * k) 4 (Int32.ofInt c)) (49 + 8 * k) 5 (Int32.ofInt t)) (49 + 8 * k) 6 (zB l)).1 a = m.1 a := fun a ha => by
    rw [zd1_ne ha, zd1_ne ha, zd1_ne ha, zd1_ne ha]
  have T3 : (d1 (d1 (d1 (d1 m (49 + 8 * k) 3 (Int32.ofInt (s : Int))) (49 + 8 * k) 4 (Int32.ofInt c)) (49 + 8 * k) 5 (Int32.ofInt t)) (49 + 8 * k) 6 (zB l)).1 (49 + 8 * k) 3 = Int32.ofInt (s : Int) := by rw [zd1_nk (by decide), zd1_nk (by decide), zd1_nk (by decide), zd1_at]
  have T4 : (d1 (d1 (d1 (d1 m (49 + 8 * k) 3 (Int32.ofInt (s : Int))) (49 + 8 * k) 4 (Int32.ofInt c)) (49 + 8 * k) 5 (Int32.ofInt t)) (49 + 8 * k) 6 (zB l)).1 (49 + 8 * k) 4 = Int32.ofInt c := by rw [zd1_nk (by decide), zd1_nk (by decide), zd1_at]
  have T5 : (d1 (d1 (d1 (d1 m (49 + 8 * k) 3 (Int32.ofInt (s : Int))) (49 + 8 * k) 4 (Int32.ofInt c)) (49 + 8 * k) 5 (Int32.ofInt t)) (49 + 8 * k) 6 (zB l)).1 (49 + 8 * k) 5 = Int32.ofInt t := by rw [zd1_nk (by decide), zd1_at]
  have T6 : (d1 (d1 (d1 (d1 m (49 + 8 * k) 3 (Int32.ofInt (s : Int))) (49 + 8 * k) 4 (Int32.ofInt c)) (49 + 8 * k) 5 (Int32.ofInt t)) (49 + 8 * k) 6 (zB l)).1 (49 + 8 * k) 6 = zB l := zd1_at
  have T2 : (d1 (d1 (d1 (d1 m (49 + 8 * k) 3 (Int32.ofInt (s : Int))) (49 + 8 * k) 4 (Int32.ofInt c)) (49 + 8 * k) 5 (Int32.ofInt t)) (49 + 8 * k) 6 (zB l)).2 = m.2 := rfl
  generalize d1 (d1 (d1 (d1 m (49 + 8 * k) 3 (Int32.ofInt (s : Int))) (49 + 8 * k) 4 (Int32.ofInt c)) (49 + 8 * k) 5 (Int32.ofInt t)) (49 + 8 * k) 6 (zB l) = m' at *
  have cells : ∀ i, i < P → (zUp so k s i < S ∧ 1 ≤ zUp co k c i ∧ zUp co k c i ≤ 64 ∧ 60 ≤ zUp te k t i ∧ zUp te k t i ≤ 240) ∧ m'.1 (49 + 8 * i) 3 = Int32.ofInt (zUp so k s i : Nat) ∧ m'.1 (49 + 8 * i) 4 = Int32.ofInt (zUp co k c i) ∧ m'.1 (49 + 8 * i) 5 = Int32.ofInt (zUp te k t i) ∧ m'.1 (49 + 8 * i) 6 = zB (zUp lt k l i) := fun i hi => by
    by_cases z : i = k
    · subst z
      rw [zUp_at, zUp_at, zUp_at, zUp_at]
      exact ⟨⟨hss, hc.1, hc.2, ht.1, ht.2⟩, T3, T4, T5, T6⟩
    · rw [zUp_ne z, zUp_ne z, zUp_ne z, zUp_ne z, T _ (by omega)]
      exact hcell i hi z
  obtain ⟨M, go', e, w1, w2, w3, w4⟩ := fX8_findFrom_ok (first := k) (so := zUp so k s) (lt := zUp lt k l) (go0 := go) hN2 hN hs (hsc.to hS (fun a q1 q2 => T a (by omega))) hP (by omega) (by rw [T 47 (by omega)]; exact h3) (fun i hi => ⟨(cells i hi).1.1, (cells i hi).2.1, (cells i hi).2.2.2.2⟩) (fun i hi => by
    obtain ⟨g1, g2, g3⟩ := hpre i hi
    refine ⟨zGo_so (k := k) (zUp_ne (by omega)) (zUp_ne (by omega)) (zUp_ne (by omega)) g1, g2, zPx_so (zUp_ne (by omega)) (zUp_ne (by omega)) (fun d hd => ?_)⟩
    rw [T _ (by omega), T _ (by omega), T _ (by omega), T _ (by omega), T _ (by omega)]; exact g3 d hd)
  refine ⟨M, go', e, fun a ha => by rw [w1 a ha, T a (by omega)], fun a ha => by rw [w3 a ha, T2], ⟨hP, fun i hi => ?_⟩, ⟨by rw [w1 47 (by omega), T 47 (by omega)]; exact h3, fun i hi => ?_⟩⟩
  · obtain ⟨⟨c1, c2, c3, c4, c5⟩, _⟩ := cells i hi
    obtain ⟨g1, g2, _⟩ := w4 i hi
    exact ⟨c1, c2, c3, c4, c5, g1, g2⟩
  · obtain ⟨_, c6, c7, c8, c9⟩ := cells i hi
    rw [w2 i hi]
    exact ⟨c6, c7, c8, c9, fun d hd => (w4 i hi).2.2 d hd⟩
theorem kd454 : dL 454 = 12 := by decide +kernel
theorem zTellM {N S P k s : Nat} {c t : Int} {l : Bool} {sx sy : Nat → Nat → Int} {so : Nat → Nat} {co te : Nat → Int} {lt : Nat → Bool} {go : Nat → Nat → Nat} {m : dM} (hN2 : 2 ≤ N) (hN : N ≤ 10) (hs : zSr N S sx sy) (hsm : zSm N S sx sy m) (hP : P ≤ 12) (hk : k < P) (hn : m.1 444 0 = Int32.ofInt (N : Int)) (h8 : m.1 444 8 = Int32.ofInt (P : Int)) (hr : zPr N S P sx sy (zUp so k s) (zUp co k c) (zUp te k t) (zUp lt k l) go)
    (hcell : ∀ i, i < P → i ≠ k → m.1 451 i = Int32.ofInt (so i : Nat) ∧ m.1 452 i = Int32.ofInt (co i) ∧ m.1 453 i = Int32.ofInt (te i) ∧ m.1 454 i = zB (lt i)) : ∃ M : dM, fX12_tells m 444 (Int32.ofInt (k : Int)) (Int32.ofInt (s : Int)) (Int32.ofInt c) (Int32.ofInt t) (zB l) = some M ∧ (∀ a, a < 451 ∨ 455 < a → M.1 a = m.1 a) ∧ (∀ a, a ≠ 456 → M.2 a = m.2 a) ∧ zPm N P (zUp so k s) (zUp co k c) (zUp te k t) (zUp lt k l) go M := by
  unfold fX12_tells
  rw [dg_ok kM, kd451, kd452, kd453, kd454, dg_ok (dIx_nat (by omega) (by decide)), zi_cn (by omega), dlet_v, dg_ok (dIx_nat (by omega) (by decide)), dlet_v, dg_ok (dIx_nat (by omega) (by decide)), dlet_v, dg_ok (dIx_nat (by omega) (by decide)), dg_ok (zB_dB l), dlet_v]
  have T : ∀ a, a < 451 ∨ 454 < a → (d1 (d1 (d1 (d1 m 451 k (Int32.ofInt (s : Int))) 452 k (Int32.ofInt c)) 453 k (Int32.ofInt t)) 454 k (zB l)).1 a = m.1 a := fun a ha => by
    rw [zd1_ne (by omega), zd1_ne (by omega), zd1_ne (by omega), zd1_ne (by omega)]
  have cells : ∀ i, i < P → (d1 (d1 (d1 (d1 m 451 k (Int32.ofInt (s : Int))) 452 k (Int32.ofInt c)) 453 k (Int32.ofInt t)) 454 k (zB l)).1 451 i = Int32.ofInt (zUp so k s i : Nat) ∧ (d1 (d1 (d1 (d1 m 451 k (Int32.ofInt (s : Int))) 452 k (Int32.ofInt c)) 453 k (Int32.ofInt t)) 454 k (zB l)).1 452 i = Int32.ofInt (zUp co k c i) ∧ (d1 (d1 (d1 (d1 m 451 k (Int32.ofInt (s : Int))) 452 k (Int32.ofInt c)) 453 k (Int32.ofInt t)) 454 k (zB l)).1 453 i = Int32.ofInt (zUp te k t i) ∧ (d1 (d1 (d1 (d1 m 451 k (Int32.ofInt (s : Int))) 452 k (Int32.ofInt c)) 453 k (Int32.ofInt t)) 454 k (zB l)).1 454 i = zB (zUp lt k l i) := fun i hi => by
    rw [zd1_ne (show 451 ≠ 454 by decide), zd1_ne (show 451 ≠ 453 by decide), zd1_ne (show 451 ≠ 452 by decide), zd1_ne (show 452 ≠ 454 by decide), zd1_ne (show 452 ≠ 453 by decide), zd1_ne (show 453 ≠ 454 by decide)]
    by_cases z : i = k
    · subst z
      rw [zUp_at, zUp_at, zUp_at, zUp_at]
      exact ⟨zd1_at, zd1_at, zd1_at, zd1_at⟩
    · rw [zUp_ne z, zUp_ne z, zUp_ne z, zUp_ne z]
      simp only [zd1_nk z]
      exact hcell i hi z
  have T2 : (d1 (d1 (d1 (d1 m 451 k (Int32.ofInt (s : Int))) 452 k (Int32.ofInt c)) 453 k (Int32.ofInt t)) 454 k (zB l)).2 = m.2 := rfl
  generalize d1 (d1 (d1 (d1 m 451 k (Int32.ofInt (s : Int))) 452 k (Int32.ofInt c)) 453 k (Int32.ofInt t)) 454 k (zB l) = m' at *
  obtain ⟨M, e, w1, w2, w3⟩ := fX12_finds_ok (m := m') (so := zUp so k s) (lt := zUp lt k l) (go := go) hN2 hN hs (hsm.to (fun a q1 q2 => T a (by omega)) (by rw [T 444 (by omega)])) hP (by rw [T 444 (by omega)]; exact hn) (by rw [T 444 (by omega)]; exact h8) (fun i hi => ⟨(hr.2 i hi).1, (cells i hi).1, (cells i hi).2.2.2⟩) (fun i hi => ⟨(hr.2 i hi).2.2.2.2.2.1, (hr.2 i hi).2.2.2.2.2.2⟩)
  refine ⟨M, by rw [e]; rfl, fun a ha => by rw [w1 a (by omega), T a (by omega)], fun a ha => by rw [w2 a ha, T2], ⟨by rw [w1 444 (by decide), T 444 (by omega)]; exact h8, fun i hi => ?_⟩⟩
  obtain ⟨c1, c2, c3, c4⟩ := cells i hi
  rw [w1 451 (by decide), w1 452 (by decide), w1 453 (by decide), w1 454 (by decide)]
  exact ⟨c1, c2, c3, c4, fun d hd => w3 i hi d hd⟩
theorem fX12_isSet_ok {N S : Nat} {sx sy : Nat → Nat → Int} {m : dM} (hs : zSr N S sx sy) (h : zSm N S sx sy m) {a : Int} (h1 : -2147483648 ≤ a) (h2 : a < 2147483648) : fX12_isSet m 444 (Int32.ofInt a) = some (if 0 ≤ a ∧ a < S then 1 else 0) := by
  have hS := hs.1
  unfold fX12_isSet
  rw [dg_ok kM, h.1, show Int32.ofInt (S : Int) - 1 = Int32.ofInt ((S : Int) - 1) by rw [show (1 : Int32) = Int32.ofInt 1 from rfl, zi_sub], show fX12_isIn m (Int32.ofInt a) 0 (Int32.ofInt ((S : Int) - 1)) = _ from fX12_isIn_ok m (b := 0) h1 h2 (by omega) (by omega) (by omega) (by omega), Option.bind_some]
  by_cases q : 0 ≤ a ∧ a < S
  · rw [if_pos (show 0 ≤ a ∧ a ≤ (S : Int) - 1 by omega), if_pos q]; rfl
  · rw [if_neg (show ¬ (0 ≤ a ∧ a ≤ (S : Int) - 1) by omega), if_neg q]; rfl
/-- what stands after part or change, with k the part that was told -/
theorem zI.told {N S P pp : Nat} {le kn : Nat → Int} {il io : Nat → Bool} {sx sy : Nat → Nat → Int} {so : Nat → Nat} {co te : Nat → Int} {lt : Nat → Bool} {go : Nat → Nat → Nat} {px py : Nat → Nat → Int} {lo hi : Int} {cap : Nat → Nat → Int} {pen : Nat → Int} {m M M2 : dM} (a0 : zDr N le kn) (a1 : zDc N le kn il io m) (b1 : zDm N le kn il io m) (a2 : zSr N S sx sy) (a3 : zSc N S sx sy m) (a4 : zSm N S sx sy m) (a5 : zPr N S P sx sy so co te lt go) (a6 : zPc N P sx sy so co te lt go M) (a7 : zPm N P so co te lt go M2) (a8 : zGr N S pp px py) (a9 : zGc N pp px py m) (a10 : zGm N pp px py m) (a11 : zCr lo hi cap pen) (a12 : zCc lo hi cap pen m) (a13 : zCm lo hi cap pen m) (f1 : ∀ a, a < 47 ∨ 171 ≤ a → M.1 a = m.1 a) (f2 : ∀ a, a < 444 ∨ (444 < a ∧ a < 451) ∨ 455 < a → M2.1 a = M.1 a) (f3 : ∀ j, j < 19 → j ≠ 8 → M2.1 444 j = M.1 444 j) : zI M2 :=
  ⟨N, S, P, pp, le, kn, il, io, sx, sy, so, co, te, lt, go, px, py, lo, hi, cap, pen, a0, a1.to (fun a q1 q2 => by rw [f2 a (by omega), f1 a (by omega)]), b1.to (fun a q1 q2 => by rw [f2 a (by omega), f1 a (by omega)]) (by rw [f3 0 (by decide) (by decide), f1 444 (by omega)]), a2, a3.to a2.1 (fun a q1 q2 => by rw [f2 a (by omega), f1 a (by omega)]), a4.to (fun a q1 q2 => by rw [f2 a (by omega), f1 a (by omega)]) (by rw [f3 5 (by decide) (by decide), f1 444 (by omega)]), a5, a6.to a5.1 (fun a q1 q2 => f2 a (by omega)), a7, a8, a9.to a8.1 (fun a q1 q2 => by rw [f2 a (by omega), f1 a (by omega)]), a10.to (fun a q1 q2 => by rw [f2 a (by omega), f1 a (by omega)]), a11, a12.to (fun a q1 q2 => by rw [f2 a (by omega), f1 a (by omega)]), a13.to (fun a q1 q2 => by rw [f2 a (by omega), f1 a (by omega)]) (by rw [f3 17 (by decide) (by decide), f1 444 (by omega)]) (by rw [f3 18 (by decide) (by decide), f1 444 (by omega)])⟩
theorem zPart {m : dM} (hI : zI m) (l : Bool) {a c t : Int} (a1 : -2147483648 ≤ a) (a2 : a < 2147483648) (c1 : -2147483648 ≤ c) (c2 : c < 2147483648) (t1 : -2147483648 ≤ t) (t2 : t < 2147483648) : ∃ m', (fL_part m 0 (Int32.ofInt a) (Int32.ofInt c) (Int32.ofInt t) (zB l) 463).bind (fun q => dP2 q (fun v3 m2 => (fX12_part m2 444 (Int32.ofInt a) (Int32.ofInt c) (Int32.ofInt t) (zB l)).bind (fun q => dP2 q (fun v6 m5 => (fX12_thrown m5 444).bind (fun v8 => if v8 = v3 then if v3 = 0 then dg (dIx 0 (dL 463)) (if (lg_cmp (m5.2 463 (Int32.toNatClampNeg (0))) (Int32.toInt64 v6)) = 0 then some m5 else none) else some m5 else none))))) = some m' ∧ zI m' := by
  have hI0 := hI
  obtain ⟨N, S, P, pp, le, kn, il, io, sx, sy, so, co, te, lt, go, px, py, lo, hi, cap, pen, h0, h1, h1m, h2, h3, h4, h5, h6, h7, h8, h9, h10, h11, h12, h13⟩ := hI0
  have hS := h2.1
  have hP := h5.1
  have X1 : fX11_part m 0 (Int32.ofInt a) (Int32.ofInt c) (Int32.ofInt t) (zB l) = if 0 ≤ a ∧ a < S then if 1 ≤ c ∧ c ≤ 64 then if 60 ≤ t ∧ t ≤ 240 then if P < 12 then (fX8_findFrom (d1 (d1 (d1 (d1 (d1 m 47 3 (Int32.ofInt ((P + 1 : Nat) : Int))) (49 + 8 * P) 3 (Int32.ofInt a)) (49 + 8 * P) 4 (Int32.ofInt c)) (49 + 8 * P) 5 (Int32.ofInt t)) (49 + 8 * P) 6 (zB l)) 47 (Int32.ofInt (P : Int)) 6 (Int32.ofInt (N : Int))).bind (fun m28 => some (.inr (Int32.ofInt (P : Int), m28))) else some (.inl (2, m)) else some (.inl (1, m)) else some (.inl (1, m)) else some (.inl (3, m)) := by
    unfold fX11_part fX7_number
    rw [dg_ok kF, dg_ok kSets, h3.1, Option.bind_some, fX11_needIndex_ok m a1 a2 (by omega) (by omega)]
    by_cases q1 : 0 ≤ a ∧ a < S
    · rw [if_pos q1, if_pos q1, Option.bind_some, dS_r, show fX11_needRange m (Int32.ofInt c) 1 64 = _ from fX11_needRange_ok m (b := 1) (c := 64) c1 c2 (by omega) (by omega) (by omega) (by omega)]
      by_cases q2 : 1 ≤ c ∧ c ≤ 64
      · rw [if_pos q2, if_pos q2, Option.bind_some, dS_r, show fX11_needRange m (Int32.ofInt t) 60 240 = _ from fX11_needRange_ok m (b := 60) (c := 240) t1 t2 (by omega) (by omega) (by omega) (by omega)]
        by_cases q3 : 60 ≤ t ∧ t ≤ 240
        · rw [if_pos q3, if_pos q3, Option.bind_some, dS_r]
          unfold fX8_number
          rw [dg_ok kShow, h6.1, Option.bind_some, show (12 : Int32) = Int32.ofInt 12 from rfl]
          by_cases q4 : P < 12
          · rw [if_pos q4, if_pos (by rw [zi_lt (by omega) (by omega) (by omega) (by omega)]; omega)]
            unfold fX8_grow
            rw [dg_ok kShow, h6.1, dlet_v, zi_1, show (12 : Int32) = Int32.ofInt 12 from rfl, if_neg (by rw [zi_lt (by omega) (by omega) (by omega) (by omega)]; omega), dlet_v, Option.bind_some, dP2_v, fX8_numbered_ok q4, Option.bind_some, dg_ok (kPart q4), fX5_tell_ok q4, Option.bind_some]
            unfold fX1_number
            rw [dg_ok kDots, zd1_ne (by omega), zd1_ne (by omega), zd1_ne (by omega), zd1_ne (by omega), zd1_ne (by omega), h1.1, Option.bind_some]
            rfl
          · rw [if_neg q4, if_neg (by rw [zi_lt (by omega) (by omega) (by omega) (by omega)]; omega)]
        · rw [if_neg q3, if_neg q3]; rfl
      · rw [if_neg q2, if_neg q2]; rfl
    · rw [if_neg q1, if_neg q1]; rfl
  have Y1 : ∀ M : dM, M.1 444 = m.1 444 → (∀ a, 445 ≤ a → a ≤ 460 → M.1 a = m.1 a) → fX12_part M 444 (Int32.ofInt a) (Int32.ofInt c) (Int32.ofInt t) (zB l) = if 0 ≤ a ∧ a < S then if 1 ≤ c ∧ c ≤ 64 then if 60 ≤ t ∧ t ≤ 240 then if P < 12 then (fX12_tells (d1 (d1 M 444 25 0) 444 8 (Int32.ofInt ((P + 1 : Nat) : Int))) 444 (Int32.ofInt (P : Int)) (Int32.ofInt a) (Int32.ofInt c) (Int32.ofInt t) (zB l)).bind (fun m11 => some ((m11.1 444 8) - 1, m11)) else some (0, d1 M 444 25 3) else some (0, d1 M 444 25 2) else some (0, d1 M 444 25 2) else some (0, d1 M 444 25 1) := fun M r1 r2 => by
    unfold fX12_part
    rw [dg_ok kM, fX12_isSet_ok h2 (h4.to (fun a w1 w2 => r2 a (by omega) (by omega)) (by rw [r1])) a1 a2, Option.bind_some, show fX12_isIn M (Int32.ofInt c) 1 64 = _ from fX12_isIn_ok M (b := 1) (c := 64) c1 c2 (by omega) (by omega) (by omega) (by omega), Option.bind_some, show fX12_isIn M (Int32.ofInt t) 60 240 = _ from fX12_isIn_ok M (b := 60) (c := 240) t1 t2 (by omega) (by omega) (by omega) (by omega), Option.bind_some]
    by_cases q1 : 0 ≤ a ∧ a < S
    · rw [if_pos q1, if_pos q1, if_neg z10]
      by_cases q2 : 1 ≤ c ∧ c ≤ 64
      · rw [if_pos q2, if_pos q2, if_neg z10]
        by_cases q3 : 60 ≤ t ∧ t ≤ 240
        · rw [if_pos q3, if_pos q3, if_neg z10, r1, h7.1, show (12 : Int32) = Int32.ofInt 12 from rfl]
          by_cases q4 : P < 12
          · rw [if_pos q4, if_neg (by rw [zi_eq (by omega) (by omega) (by omega) (by omega)]; omega), dlet_v, zd1_nk (show 8 ≠ 25 by decide), r1, h7.1, zi_1, dlet_v, zd1_at, show Int32.ofInt ((P : Int) + 1) - 1 = Int32.ofInt (P : Int) by rw [show (1 : Int32) = Int32.ofInt 1 from rfl, zi_sub]; congr 1; omega]
            rfl
          · rw [if_neg q4, if_pos (by rw [show P = 12 by omega]; rfl)]; rfl
        · rw [if_neg q3, if_neg q3, if_pos rfl]; rfl
      · rw [if_neg q2, if_neg q2, if_pos rfl]; rfl
    · rw [if_neg q1, if_neg q1, if_pos rfl]; rfl
  have g1 := kL463
  unfold fL_part
  by_cases q1 : 0 ≤ a ∧ a < S
  · rw [if_pos q1] at X1
    by_cases q2 : 1 ≤ c ∧ c ≤ 64
    · rw [if_pos q2] at X1
      by_cases q3 : 60 ≤ t ∧ t ≤ 240
      · rw [if_pos q3] at X1
        by_cases q4 : P < 12
        · rw [if_pos q4] at X1
          obtain ⟨s, rfl⟩ := zi_nat q1.1
          obtain ⟨M, go', e, w1, w2, w3, w4⟩ := zTell (m := d1 m 47 3 (Int32.ofInt ((P + 1 : Nat) : Int))) (P := P + 1) (k := P) (s := s) (l := l) (so := so) (co := co) (te := te) (lt := lt) (go := go) h0.1 h0.2.1 h2 (h3.to hS (fun a q1 q2 => zd1_ne (by omega))) (by omega) (by omega) zd1_at (by omega) q2 q3 (fun i hi hne => by
            obtain ⟨c1, c2, c3, c4, c5⟩ := h6.2 i (by omega)
            obtain ⟨r1, r2, r3, r4, r5, r6, r7⟩ := h5.2 i (by omega)
            rw [zd1_ne (by omega)]
            exact ⟨⟨r1, r2, r3, r4, r5⟩, c1, c2, c3, c4⟩) (fun i hi => by
            obtain ⟨c1, c2, c3, c4, c5⟩ := h6.2 i hi
            obtain ⟨r1, r2, r3, r4, r5, r6, r7⟩ := h5.2 i hi
            refine ⟨r6, r7, fun d hd => ?_⟩
            rw [zd1_ne (by omega), zd1_ne (by omega), zd1_ne (by omega), zd1_ne (by omega), zd1_ne (by omega)]
            exact c5 d hd)
          have X : fX11_part m 0 (Int32.ofInt (s : Int)) (Int32.ofInt c) (Int32.ofInt t) (zB l) = some (.inr (Int32.ofInt (P : Int), M)) := by rw [X1, e, Option.bind_some]
          have fM : ∀ a, a < 47 ∨ 171 ≤ a → M.1 a = m.1 a := fun a ha => by rw [w1 a (by omega), zd1_ne (by omega)]
          have Yw : ∀ v, ∃ M2, fX12_part (d2 M 463 0 v) 444 (Int32.ofInt (s : Int)) (Int32.ofInt c) (Int32.ofInt t) (zB l) = some (Int32.ofInt (P : Int), M2) ∧ (∀ a, a < 451 ∨ 455 < a → M2.1 a = (d1 (d1 (d2 M 463 0 v) 444 25 0) 444 8 (Int32.ofInt ((P + 1 : Nat) : Int))).1 a) ∧ (∀ a, a ≠ 456 → M2.2 a = (d2 M 463 0 v).2 a) ∧ zPm N (P + 1) (zUp so P s) (zUp co P c) (zUp te P t) (zUp lt P l) go' M2 := fun v => by
            obtain ⟨M2, x1, x2, x3, x4⟩ := zTellM (m := d1 (d1 (d2 M 463 0 v) 444 25 0) 444 8 (Int32.ofInt ((P + 1 : Nat) : Int))) (P := P + 1) (k := P) (s := s) (c := c) (t := t) (l := l) (so := so) (co := co) (te := te) (lt := lt) (go := go') h0.1 h0.2.1 h2 (h4.to (fun a q1 q2 => by rw [zd1_ne (by omega), zd1_ne (by omega), zd2_1, fM a (by omega)]) (by rw [zd1_nk (by decide), zd1_nk (by decide), zd2_1, fM 444 (by omega)])) (by omega) (by omega) (by rw [zd1_nk (by decide), zd1_nk (by decide), zd2_1, fM 444 (by omega)]; exact h1m.1) zd1_at w3 (fun i hi hne => by
              obtain ⟨c1, c2, c3, c4, c5⟩ := h7.2 i (by omega)
              rw [zd1_ne (by decide), zd1_ne (by decide), zd1_ne (by decide), zd1_ne (by decide), zd1_ne (by decide), zd1_ne (by decide), zd1_ne (by decide), zd1_ne (by decide), zd2_1, fM 451 (by omega), fM 452 (by omega), fM 453 (by omega), fM 454 (by omega)]
              exact ⟨c1, c2, c3, c4⟩)
            refine ⟨M2, ?_, x2, fun a ha => by rw [x3 a ha]; rfl, x4⟩
            rw [Y1 (d2 M 463 0 v) (by rw [zd2_1, fM 444 (by omega)]) (fun a r1 r2 => by rw [zd2_1, fM a (by omega)]), if_pos q1, if_pos q2, if_pos q3, if_pos q4, x1, Option.bind_some, x2 444 (by omega), zd1_at, zi_pr]
          obtain ⟨M2, Y, y2, y3, y4⟩ := Yw (Int64.ofInt (P : Int))
          have zj : (Int32.ofInt (P : Int)).toInt64 = Int64.ofInt (P : Int) := zi_j (by omega) (by omega)
          have th : M2.1 444 25 = 0 := by rw [y2 444 (by omega), zd1_nk (by decide), zd1_at]
          have an : M2.2 463 0 = Int64.ofInt (P : Int) := by rw [y3 463 (by decide), zd2_at]
          refine ⟨M2, ?_, zI.told (M := M) h0 h1 h1m h2 h3 h4 w3 w4 y4 h8 h9 h10 h11 h12 h13 fM (fun a ha => by rw [y2 a (by omega), zd1_ne (by omega), zd1_ne (by omega), zd2_1]) (fun j hj hj8 => by rw [y2 444 (by omega), zd1_nk hj8, zd1_nk (by omega), zd2_1])⟩
          rw [dg_ok kF, dg_ok kOut, X, Option.bind_some, dS_r, dP2_v, dg_ok kL463, dlet_v, Option.bind_some, dP2_v, zcl0, zj, Y, Option.bind_some, dP2_v, fX12_thrown_ok, Option.bind_some, th, if_pos rfl, if_pos rfl, dg_ok kL463, an, zj, if_pos (zcmp _)]
        · rw [if_neg q4] at X1
          have Y := Y1 m rfl (fun _ _ _ => rfl)
          rw [if_pos q1, if_pos q2, if_pos q3, if_neg q4] at Y
          refine ⟨d1 m 444 25 3, ?_, hI.to (fun a h => by simp (disch := omega) only [zd1_ne, zd1_nk, zd2_1]) (fun k h => by simp (disch := omega) only [zd1_ne, zd1_nk, zd2_1])⟩
          simp (disch := omega) only [dg_ok g1, dg_ok kF, dg_ok kOut, dg_ok kL463, fX12_thrown_ok, Option.bind_some, dS, dP2, dlet, zcl0, zcmp, zd1_at, zd2_at, zd1_2, zd2_1, zd1_ne, zd1_nk, if_pos, if_neg, if_true, if_false, eq_self, zn10, zn20, zn30, zk13, zk31, zk21, zk23, zk12, zk32, X1, Y]
      · rw [if_neg q3] at X1
        have Y := Y1 m rfl (fun _ _ _ => rfl)
        rw [if_pos q1, if_pos q2, if_neg q3] at Y
        refine ⟨d1 m 444 25 2, ?_, hI.to (fun a h => by simp (disch := omega) only [zd1_ne, zd1_nk, zd2_1]) (fun k h => by simp (disch := omega) only [zd1_ne, zd1_nk, zd2_1])⟩
        simp (disch := omega) only [dg_ok g1, dg_ok kF, dg_ok kOut, dg_ok kL463, fX12_thrown_ok, Option.bind_some, dS, dP2, dlet, zcl0, zcmp, zd1_at, zd2_at, zd1_2, zd2_1, zd1_ne, zd1_nk, if_pos, if_neg, if_true, if_false, eq_self, zn10, zn20, zn30, zk13, zk31, zk21, zk23, zk12, zk32, X1, Y]
    · rw [if_neg q2] at X1
      have Y := Y1 m rfl (fun _ _ _ => rfl)
      rw [if_pos q1, if_neg q2] at Y
      refine ⟨d1 m 444 25 2, ?_, hI.to (fun a h => by simp (disch := omega) only [zd1_ne, zd1_nk, zd2_1]) (fun k h => by simp (disch := omega) only [zd1_ne, zd1_nk, zd2_1])⟩
      simp (disch := omega) only [dg_ok g1, dg_ok kF, dg_ok kOut, dg_ok kL463, fX12_thrown_ok, Option.bind_some, dS, dP2, dlet, zcl0, zcmp, zd1_at, zd2_at, zd1_2, zd2_1, zd1_ne, zd1_nk, if_pos, if_neg, if_true, if_false, eq_self, zn10, zn20, zn30, zk13, zk31, zk21, zk23, zk12, zk32, X1, Y]
  · rw [if_neg q1] at X1
    have Y := Y1 m rfl (fun _ _ _ => rfl)
    rw [if_neg q1] at Y
    refine ⟨d1 m 444 25 1, ?_, hI.to (fun a h => by simp (disch := omega) only [zd1_ne, zd1_nk, zd2_1]) (fun k h => by simp (disch := omega) only [zd1_ne, zd1_nk, zd2_1])⟩
    simp (disch := omega) only [dg_ok g1, dg_ok kF, dg_ok kOut, dg_ok kL463, fX12_thrown_ok, Option.bind_some, dS, dP2, dlet, zcl0, zcmp, zd1_at, zd2_at, zd1_2, zd2_1, zd1_ne, zd1_nk, if_pos, if_neg, if_true, if_false, eq_self, zn10, zn20, zn30, zk13, zk31, zk21, zk23, zk12, zk32, X1, Y]
theorem fLaw_7_ok {xs : Nat → Int32} {nL : Nat} {i : Int32} {m : dM} (hI : zI m) (g1 : dIx (i + 1) nL = true) (g2 : dIx (i + 2) nL = true) (g3 : dIx (i + 3) nL = true) (g4 : dIx (i + 4) nL = true) : ∃ m', fLaw_7 xs nL i m = some m' ∧ zI m' := by
  obtain ⟨a, a1, a2, ea⟩ := zi_of (xs (Int32.toNatClampNeg (i + 1)))
  obtain ⟨c, c1, c2, ec⟩ := zi_of (xs (Int32.toNatClampNeg (i + 2)))
  obtain ⟨t, t1, t2, et⟩ := zi_of (xs (Int32.toNatClampNeg (i + 3)))
  unfold fLaw_7
  simp only [dg_ok g1, dg_ok g2, dg_ok g3, dg_ok g4]
  rw [ea, ec, et]
  by_cases h : xs (Int32.toNatClampNeg (i + 4)) = 0
  · simp only [if_pos h]
    exact zPart hI false a1 a2 c1 c2 t1 t2
  · simp only [if_neg h]
    exact zPart hI true a1 a2 c1 c2 t1 t2
theorem zChange {m : dM} (hI : zI m) (l : Bool) {b a c t : Int} (b1 : -2147483648 ≤ b) (b2 : b < 2147483648) (a1 : -2147483648 ≤ a) (a2 : a < 2147483648) (c1 : -2147483648 ≤ c) (c2 : c < 2147483648) (t1 : -2147483648 ≤ t) (t2 : t < 2147483648) : ∃ m', (fL_change m 0 (Int32.ofInt b) (Int32.ofInt a) (Int32.ofInt c) (Int32.ofInt t) (zB l)).bind (fun q => dP2 q (fun v3 m2 => (fX12_change m2 444 (Int32.ofInt b) (Int32.ofInt a) (Int32.ofInt c) (Int32.ofInt t) (zB l)).bind (fun m5 => (fX12_thrown m5 444).bind (fun v7 => if v7 = v3 then some m5 else none)))) = some m' ∧ zI m' := by
  have hI0 := hI
  obtain ⟨N, S, P, pp, le, kn, il, io, sx, sy, so, co, te, lt, go, px, py, lo, hi, cap, pen, h0, h1, h1m, h2, h3, h4, h5, h6, h7, h8, h9, h10, h11, h12, h13⟩ := hI0
  have hS := h2.1
  have hP := h5.1
  have X1 : fX11_change m 0 (Int32.ofInt b) (Int32.ofInt a) (Int32.ofInt c) (Int32.ofInt t) (zB l) = if 0 ≤ b ∧ b < P then if 0 ≤ a ∧ a < S then if 1 ≤ c ∧ c ≤ 64 then if 60 ≤ t ∧ t ≤ 240 then (fX8_findFrom (d1 (d1 (d1 (d1 m (49 + 8 * b.toNat) 3 (Int32.ofInt a)) (49 + 8 * b.toNat) 4 (Int32.ofInt c)) (49 + 8 * b.toNat) 5 (Int32.ofInt t)) (49 + 8 * b.toNat) 6 (zB l)) 47 (Int32.ofInt b) 6 (Int32.ofInt (N : Int))).bind (fun m28 => some (.inr m28)) else some (.inl (1, m)) else some (.inl (1, m)) else some (.inl (3, m)) else some (.inl (3, m)) := by
    unfold fX11_change fX7_number
    rw [dg_ok kF, fX11_needPart_ok h5 h6 b1 b2]
    by_cases q0 : 0 ≤ b ∧ b < P
    · obtain ⟨k, rfl⟩ := zi_nat q0.1
      rw [if_pos q0, if_pos q0, Option.bind_some, dS_r, dg_ok kSets, h3.1, Option.bind_some, fX11_needIndex_ok m a1 a2 (by omega) (by omega), Int.toNat_natCast]
      by_cases q1 : 0 ≤ a ∧ a < S
      · rw [if_pos q1, if_pos q1, Option.bind_some, dS_r, show fX11_needRange m (Int32.ofInt c) 1 64 = _ from fX11_needRange_ok m (b := 1) (c := 64) c1 c2 (by omega) (by omega) (by omega) (by omega)]
        by_cases q2 : 1 ≤ c ∧ c ≤ 64
        · rw [if_pos q2, if_pos q2, Option.bind_some, dS_r, show fX11_needRange m (Int32.ofInt t) 60 240 = _ from fX11_needRange_ok m (b := 60) (c := 240) t1 t2 (by omega) (by omega) (by omega) (by omega)]
          by_cases q3 : 60 ≤ t ∧ t ≤ 240
          · rw [if_pos q3, if_pos q3, Option.bind_some, dS_r, fX8_numbered_ok (by omega), Option.bind_some, dg_ok (kPart (by omega)), fX5_tell_ok (by omega), Option.bind_some]
            unfold fX1_number
            rw [dg_ok kDots, zd1_ne (by omega), zd1_ne (by omega), zd1_ne (by omega), zd1_ne (by omega), h1.1, Option.bind_some]
          · rw [if_neg q3, if_neg q3]; rfl
        · rw [if_neg q2, if_neg q2]; rfl
      · rw [if_neg q1, if_neg q1]; rfl
    · rw [if_neg q0, if_neg q0]; rfl
  have Y1 : ∀ M : dM, M.1 444 = m.1 444 → (∀ a, 445 ≤ a → a ≤ 460 → M.1 a = m.1 a) → fX12_change M 444 (Int32.ofInt b) (Int32.ofInt a) (Int32.ofInt c) (Int32.ofInt t) (zB l) = if 0 ≤ b ∧ b < P then if 0 ≤ a ∧ a < S then if 1 ≤ c ∧ c ≤ 64 then if 60 ≤ t ∧ t ≤ 240 then (fX12_tells (d1 M 444 25 0) 444 (Int32.ofInt b) (Int32.ofInt a) (Int32.ofInt c) (Int32.ofInt t) (zB l)).bind (fun m13 => some m13) else some (d1 M 444 25 2) else some (d1 M 444 25 2) else some (d1 M 444 25 1) else some (d1 M 444 25 1) := fun M r1 r2 => by
    unfold fX12_change
    rw [dg_ok kM, fX12_isPart_ok h5 (h7.to (fun a w1 w2 => r2 a (by omega) (by omega)) (by rw [r1])) b1 b2, Option.bind_some, fX12_isSet_ok h2 (h4.to (fun a w1 w2 => r2 a (by omega) (by omega)) (by rw [r1])) a1 a2, Option.bind_some, show fX12_isIn M (Int32.ofInt c) 1 64 = _ from fX12_isIn_ok M (b := 1) (c := 64) c1 c2 (by omega) (by omega) (by omega) (by omega), Option.bind_some, show fX12_isIn M (Int32.ofInt t) 60 240 = _ from fX12_isIn_ok M (b := 60) (c := 240) t1 t2 (by omega) (by omega) (by omega) (by omega), Option.bind_some]
    by_cases q0 : 0 ≤ b ∧ b < P
    · rw [if_pos q0, if_pos q0, if_neg z10]
      by_cases q1 : 0 ≤ a ∧ a < S
      · rw [if_pos q1, if_pos q1, if_neg z10]
        by_cases q2 : 1 ≤ c ∧ c ≤ 64
        · rw [if_pos q2, if_pos q2, if_neg z10]
          by_cases q3 : 60 ≤ t ∧ t ≤ 240
          · rw [if_pos q3, if_pos q3, if_neg z10]; rfl
          · rw [if_neg q3, if_neg q3, if_pos rfl]; rfl
        · rw [if_neg q2, if_neg q2, if_pos rfl]; rfl
      · rw [if_neg q1, if_neg q1, if_pos rfl]; rfl
    · rw [if_neg q0, if_neg q0, if_pos rfl]; rfl
  have bad : ∀ (kx : Nat) (n : Int32), ((kx = 3 ∧ n = 1) ∨ (kx = 1 ∧ n = 2)) → fX11_change m 0 (Int32.ofInt b) (Int32.ofInt a) (Int32.ofInt c) (Int32.ofInt t) (zB l) = some (.inl (kx, m)) → fX12_change m 444 (Int32.ofInt b) (Int32.ofInt a) (Int32.ofInt c) (Int32.ofInt t) (zB l) = some (d1 m 444 25 n) → ∃ m', (fL_change m 0 (Int32.ofInt b) (Int32.ofInt a) (Int32.ofInt c) (Int32.ofInt t) (zB l)).bind (fun q => dP2 q (fun v3 m2 => (fX12_change m2 444 (Int32.ofInt b) (Int32.ofInt a) (Int32.ofInt c) (Int32.ofInt t) (zB l)).bind (fun m5 => (fX12_thrown m5 444).bind (fun v7 => if v7 = v3 then some m5 else none)))) = some m' ∧ zI m' := fun kx n hk X Y => by
    refine ⟨d1 m 444 25 n, ?_, hI.to (fun a h => by simp (disch := omega) only [zd1_ne, zd1_nk, zd2_1]) (fun k h => by simp (disch := omega) only [zd1_ne, zd1_nk, zd2_1])⟩
    unfold fL_change
    rw [dg_ok kF, X, Option.bind_some, dS_l, dP2_v]
    rcases hk with ⟨rfl, rfl⟩ | ⟨rfl, rfl⟩
    · rw [if_pos rfl, Option.bind_some, dP2_v, Y, Option.bind_some, fX12_thrown_ok, Option.bind_some, zd1_at, if_pos rfl]
    · rw [if_neg (by decide), if_pos rfl, Option.bind_some, dP2_v, Y, Option.bind_some, fX12_thrown_ok, Option.bind_some, zd1_at, if_pos rfl]
  have Y0 := Y1 m rfl (fun _ _ _ => rfl)
  by_cases q0 : 0 ≤ b ∧ b < P
  · by_cases q1 : 0 ≤ a ∧ a < S
    · by_cases q2 : 1 ≤ c ∧ c ≤ 64
      · by_cases q3 : 60 ≤ t ∧ t ≤ 240
        · obtain ⟨k, rfl⟩ := zi_nat q0.1
          obtain ⟨s, rfl⟩ := zi_nat q1.1
          have hk : k < P := by omega
          rw [if_pos q0, if_pos q1, if_pos q2, if_pos q3, Int.toNat_natCast] at X1
          obtain ⟨M, go', e, w1, w2, w3, w4⟩ := zTell (m := m) (P := P) (k := k) (s := s) (l := l) (so := so) (co := co) (te := te) (lt := lt) (go := go) h0.1 h0.2.1 h2 h3 hP hk h6.1 (by omega) q2 q3 (fun i hi hne => by
            obtain ⟨c1, c2, c3, c4, c5⟩ := h6.2 i hi
            obtain ⟨r1, r2, r3, r4, r5, r6, r7⟩ := h5.2 i hi
            exact ⟨⟨r1, r2, r3, r4, r5⟩, c1, c2, c3, c4⟩) (fun i hi => by
            obtain ⟨c1, c2, c3, c4, c5⟩ := h6.2 i (by omega)
            obtain ⟨r1, r2, r3, r4, r5, r6, r7⟩ := h5.2 i (by omega)
            exact ⟨r6, r7, fun d hd => c5 d hd⟩)
          have X : fX11_change m 0 (Int32.ofInt (k : Int)) (Int32.ofInt (s : Int)) (Int32.ofInt c) (Int32.ofInt t) (zB l) = some (.inr M) := by rw [X1, e, Option.bind_some]
          have fM : ∀ a, a < 47 ∨ 171 ≤ a → M.1 a = m.1 a := fun a ha => w1 a (by omega)
          obtain ⟨M2, x1, y2, y3, y4⟩ := zTellM (m := d1 M 444 25 0) (P := P) (k := k) (s := s) (c := c) (t := t) (l := l) (so := so) (co := co) (te := te) (lt := lt) (go := go') h0.1 h0.2.1 h2 (h4.to (fun a q1 q2 => by rw [zd1_ne (by omega), fM a (by omega)]) (by rw [zd1_nk (by decide), fM 444 (by omega)])) hP hk (by rw [zd1_nk (by decide), fM 444 (by omega)]; exact h1m.1) (by rw [zd1_nk (by decide), fM 444 (by omega)]; exact h7.1) w3 (fun i hi hne => by
              obtain ⟨c1, c2, c3, c4, c5⟩ := h7.2 i hi
              rw [zd1_ne (by decide), zd1_ne (by decide), zd1_ne (by decide), zd1_ne (by decide), fM 451 (by omega), fM 452 (by omega), fM 453 (by omega), fM 454 (by omega)]
              exact ⟨c1, c2, c3, c4⟩)
          have Y : fX12_change M 444 (Int32.ofInt (k : Int)) (Int32.ofInt (s : Int)) (Int32.ofInt c) (Int32.ofInt t) (zB l) = some M2 := by
            rw [Y1 M (fM 444 (by omega)) (fun a r1 r2 => fM a (by omega)), if_pos q0, if_pos q1, if_pos q2, if_pos q3, x1, Option.bind_some]
          have th : M2.1 444 25 = 0 := by rw [y2 444 (by omega), zd1_at]
          refine ⟨M2, ?_, zI.told (M := M) h0 h1 h1m h2 h3 h4 w3 w4 y4 h8 h9 h10 h11 h12 h13 fM (fun a ha => by rw [y2 a (by omega), zd1_ne (by omega)]) (fun j hj hj8 => by rw [y2 444 (by omega), zd1_nk (by omega)])⟩
          unfold fL_change
          rw [dg_ok kF, X, Option.bind_some, dS_r, Option.bind_some, dP2_v, Y, Option.bind_some, fX12_thrown_ok, Option.bind_some, th, if_pos rfl]
        · exact bad 1 2 (Or.inr ⟨rfl, rfl⟩) (by rw [X1, if_pos q0, if_pos q1, if_pos q2, if_neg q3]) (by rw [Y0, if_pos q0, if_pos q1, if_pos q2, if_neg q3])
      · exact bad 1 2 (Or.inr ⟨rfl, rfl⟩) (by rw [X1, if_pos q0, if_pos q1, if_neg q2]) (by rw [Y0, if_pos q0, if_pos q1, if_neg q2])
    · exact bad 3 1 (Or.inl ⟨rfl, rfl⟩) (by rw [X1, if_pos q0, if_neg q1]) (by rw [Y0, if_pos q0, if_neg q1])
  · exact bad 3 1 (Or.inl ⟨rfl, rfl⟩) (by rw [X1, if_neg q0]) (by rw [Y0, if_neg q0])
theorem fLaw_8_ok {xs : Nat → Int32} {nL : Nat} {i : Int32} {m : dM} (hI : zI m) (g1 : dIx (i + 1) nL = true) (g2 : dIx (i + 2) nL = true) (g3 : dIx (i + 3) nL = true) (g4 : dIx (i + 4) nL = true) (g5 : dIx (i + 5) nL = true) : ∃ m', fLaw_8 xs nL i m = some m' ∧ zI m' := by
  obtain ⟨b, b1, b2, eb⟩ := zi_of (xs (Int32.toNatClampNeg (i + 1)))
  obtain ⟨a, a1, a2, ea⟩ := zi_of (xs (Int32.toNatClampNeg (i + 2)))
  obtain ⟨c, c1, c2, ec⟩ := zi_of (xs (Int32.toNatClampNeg (i + 3)))
  obtain ⟨t, t1, t2, et⟩ := zi_of (xs (Int32.toNatClampNeg (i + 4)))
  unfold fLaw_8
  simp only [dg_ok g1, dg_ok g2, dg_ok g3, dg_ok g4, dg_ok g5]
  rw [eb, ea, ec, et]
  by_cases h : xs (Int32.toNatClampNeg (i + 5)) = 0
  · simp only [if_pos h]
    exact zChange hI false b1 b2 a1 a2 c1 c2 t1 t2
  · simp only [if_neg h]
    exact zChange hI true b1 b2 a1 a2 c1 c2 t1 t2
