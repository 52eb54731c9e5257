theorem fX7_numbered_ok {m : dM} {s : Nat} (hs : s < 12) : fX7_numbered m 6 (Int32.ofInt (s : Int)) = some (8 + 3 * s) := by
  unfold fX7_numbered
  rw [dg_ok kSets, show fX11_isWithin m (Int32.ofInt s) 0 11 = _ from fX11_isWithin_ok m (b := 0) (c := 11) (by omega) (by omega) (by omega) (by omega) (by omega) (by omega), Option.bind_some, if_pos (show (0 : Int) ≤ s ∧ (s : Int) ≤ 11 by omega), if_neg z10, show dL 7 = 12 by decide +kernel, dg_ok (dIx_nat hs (by decide)), zi_cn (by omega)]
  have k := (kSpS hs).1
  rw [show 7 + 1 + 3 * s = 8 + 3 * s by omega, dg_ok k, dg_ok (dIx_nat hs (by decide)), dg_ok k]
theorem fX8_sendKept_ok {m : dM} {N i gl : Nat} {bx by' : Nat → Int} (hN : N ≤ 10) (hi : i < 12) (hgl : zSp gl) (hg2 : gl + 2 < 44) (hb : ∀ p, p < N → m.1 (gl + 1) p = Int32.ofInt (bx p) ∧ m.1 (gl + 2) p = Int32.ofInt (by' p)) : ∃ (M : dM), fX8_sendKept m (49 + 8 * i) gl (Int32.ofInt (N : Int)) = some M ∧ (∀ a, a ≠ 49 + 8 * i + 7 → a ≠ 49 + 8 * i + 4 + 1 → a ≠ 49 + 8 * i + 4 + 2 → M.1 a = m.1 a) ∧ M.2 = m.2 ∧ ∀ d, d < N → M.1 (49 + 8 * i + 7) d = Int32.ofInt (d : Int) ∧ M.1 (49 + 8 * i + 4 + 1) d = Int32.ofInt (bx d) ∧ M.1 (49 + 8 * i + 4 + 2) d = Int32.ofInt (by' d) := by
  unfold fX8_sendKept
  rw [dg_ok (kPart hi), dg_ok hgl.1]
  obtain ⟨M4, e4, x1, x2, x3⟩ := dlp_inv (f := fun q => dP2 q (fun v2 m3 => fX8_sendKept_l2 (49 + 8 * i) gl (Int32.ofInt (N : Int)) v2 m3)) (Q := fun (r : dM) => (∀ a, a ≠ 49 + 8 * i + 7 → a ≠ 49 + 8 * i + 4 + 1 → a ≠ 49 + 8 * i + 4 + 2 → r.1 a = m.1 a) ∧ r.2 = m.2 ∧ ∀ d, d < N → r.1 (49 + 8 * i + 7) d = Int32.ofInt (d : Int) ∧ r.1 (49 + 8 * i + 4 + 1) d = Int32.ofInt (bx d) ∧ r.1 (49 + 8 * i + 4 + 2) d = Int32.ofInt (by' d)) (fun j s => s.1 = Int32.ofInt (j : Int) ∧ (∀ a, a ≠ 49 + 8 * i + 7 → a ≠ 49 + 8 * i + 4 + 1 → a ≠ 49 + 8 * i + 4 + 2 → s.2.1 a = m.1 a) ∧ s.2.2 = m.2 ∧ ∀ d, d < j → s.2.1 (49 + 8 * i + 7) d = Int32.ofInt (d : Int) ∧ s.2.1 (49 + 8 * i + 4 + 1) d = Int32.ofInt (bx d) ∧ s.2.1 (49 + 8 * i + 4 + 2) d = Int32.ofInt (by' d)) N
    (fun j s hj hs => by
      obtain ⟨x, Q⟩ := s
      obtain ⟨j1, j2, j3, j4⟩ := hs
      have j1 : x = Int32.ofInt (j : Int) := j1
      have j2 : ∀ a, a ≠ 49 + 8 * i + 7 → a ≠ 49 + 8 * i + 4 + 1 → a ≠ 49 + 8 * i + 4 + 2 → Q.1 a = m.1 a := j2
      have j4 : ∀ d, d < j → Q.1 (49 + 8 * i + 7) d = Int32.ofInt (d : Int) ∧ Q.1 (49 + 8 * i + 4 + 1) d = Int32.ofInt (bx d) ∧ Q.1 (49 + 8 * i + 4 + 2) d = Int32.ofInt (by' d) := j4
      subst j1
      refine Or.inl ⟨(Int32.ofInt ((j + 1 : Nat) : Int), d1 (d1 (d1 Q (49 + 8 * i + 7) j (Int32.ofInt (j : Int))) (49 + 8 * i + 4 + 1) j (Int32.ofInt (bx j))) (49 + 8 * i + 4 + 2) j (Int32.ofInt (by' j))), ?_, rfl, fun a a1 a2 a3 => by show (d1 (d1 (d1 _ _ _ _) _ _ _) _ _ _).1 a = _; rw [zd1_ne a3, zd1_ne a2, zd1_ne a1]; exact j2 a a1 a2 a3, j3, fun c hcj => ?_⟩
      · show fX8_sendKept_l2 (49 + 8 * i) gl (Int32.ofInt (N : Int)) (Int32.ofInt (j : Int)) Q = _
        unfold fX8_sendKept_l2
        rw [if_neg (by rw [zi_le (by omega) (by omega) (by omega) (by omega)]; omega), fX5_send_ok hi (by omega) (by omega) hgl hg2 (by rw [j2 _ (by omega) (by omega) (by omega)]; exact (hb j hj).1) (by rw [j2 _ (by omega) (by omega) (by omega)]; exact (hb j hj).2), Option.bind_some, dlet_v, zi_1]; rfl
      · show (d1 (d1 (d1 Q _ _ _) _ _ _) _ _ _).1 _ c = _ ∧ (d1 (d1 (d1 Q _ _ _) _ _ _) _ _ _).1 _ c = _ ∧ (d1 (d1 (d1 Q _ _ _) _ _ _) _ _ _).1 _ c = _
        rw [zd1_ne (show 49 + 8 * i + 7 ≠ 49 + 8 * i + 4 + 2 by omega), zd1_ne (show 49 + 8 * i + 7 ≠ 49 + 8 * i + 4 + 1 by omega), zd1_ne (show 49 + 8 * i + 4 + 1 ≠ 49 + 8 * i + 4 + 2 by omega)]
        by_cases z : c = j
        · subst z; rw [zd1_at, zd1_at, zd1_at]; exact ⟨rfl, rfl, rfl⟩
        · rw [zd1_nk z, zd1_nk z, zd1_ne (show 49 + 8 * i + 4 + 1 ≠ 49 + 8 * i + 7 by omega), zd1_nk z, zd1_ne (show 49 + 8 * i + 4 + 2 ≠ 49 + 8 * i + 4 + 1 by omega), zd1_ne (show 49 + 8 * i + 4 + 2 ≠ 49 + 8 * i + 7 by omega)]
          exact j4 c (by omega))
    (fun s hs => by
      obtain ⟨x, Q⟩ := s
      obtain ⟨j1, j2, j3, j4⟩ := hs
      have j1 : x = Int32.ofInt (N : Int) := j1
      subst j1
      refine ⟨Q, ?_, j2, j3, j4⟩
      show fX8_sendKept_l2 (49 + 8 * i) gl (Int32.ofInt (N : Int)) (Int32.ofInt (N : Int)) Q = _
      unfold fX8_sendKept_l2
      rw [if_pos (Int32.le_refl _)]) N 0 dFl (0, m) (by omega) (by show N < 100000; omega) ⟨rfl, fun a _ _ _ => rfl, rfl, fun d hd => by omega⟩
  exact ⟨M4, by rw [e4]; rfl, x1, x2, x3⟩
/-- what the class's part i says of who goes where -/
def zPx (N : Nat) (sx sy : Nat → Nat → Int) (so : Nat → Nat) (go : Nat → Nat → Nat) (m : dM) (i : Nat) : Prop := ∀ d, d < N → m.1 (49 + 8 * i + 7) d = Int32.ofInt (go i d : Nat) ∧ m.1 (49 + 8 * i + 4 + 1) d = Int32.ofInt (zX sx so go i d) ∧ m.1 (49 + 8 * i + 4 + 2) d = Int32.ofInt (zX sy so go i d) ∧ m.1 (49 + 8 * i + 1 + 1) d = Int32.ofInt (zX sx so go (i - 1) d) ∧ m.1 (49 + 8 * i + 1 + 2) d = Int32.ofInt (zX sy so go (i - 1) d)
theorem zGo_congr {N : Nat} {sx sy : Nat → Nat → Int} {so : Nat → Nat} {lt : Nat → Bool} {go go' : Nat → Nat → Nat} {i : Nat} (h1 : go' i = go i) (h2 : go' (i - 1) = go (i - 1)) (h : zGo N sx sy so lt go i) : zGo N sx sy so lt go' i := by
  unfold zGo at *
  have e : zW sx sy so go' i = zW sx sy so go i := by funext d p; unfold zW zX; rw [h2]
  rw [e, h1]; exact h
theorem zPx_congr {N : Nat} {sx sy : Nat → Nat → Int} {so : Nat → Nat} {go go' : Nat → Nat → Nat} {m : dM} {i : Nat} (h1 : go' i = go i) (h2 : go' (i - 1) = go (i - 1)) (h : zPx N sx sy so go m i) : zPx N sx sy so go' m i := fun d hd => by
  unfold zX
  rw [h1, h2]; exact h d hd
theorem fX8_findFrom_ok {N S P first : Nat} {sx sy : Nat → Nat → Int} {so : Nat → Nat} {lt : Nat → Bool} {go0 : Nat → Nat → Nat} {m : dM} (hN2 : 2 ≤ N) (hN : N ≤ 10) (hs : zSr N S sx sy) (hsc : zSc N S sx sy m) (hP : P ≤ 12) (hf : first ≤ P) (h3 : m.1 47 3 = Int32.ofInt (P : Int)) (hp : ∀ i, i < P → so i < S ∧ m.1 (49 + 8 * i) 3 = Int32.ofInt (so i : Nat) ∧ m.1 (49 + 8 * i) 6 = zB (lt i)) (hg : ∀ i, i < first → zGo N sx sy so lt go0 i ∧ (∀ d, d < N → go0 i d < N) ∧ zPx N sx sy so go0 m i) : ∃ (M : dM) (go : Nat → Nat → Nat), fX8_findFrom m 47 (Int32.ofInt (first : Int)) 6 (Int32.ofInt (N : Int)) = some M ∧ (∀ a, a < 49 ∨ (145 ≤ a ∧ a < 153) ∨ 171 ≤ a → M.1 a = m.1 a) ∧ (∀ i, i < P → M.1 (49 + 8 * i) = m.1 (49 + 8 * i)) ∧ (∀ a, a < 153 ∨ 171 ≤ a → M.2 a = m.2 a) ∧ ∀ i, i < P → zGo N sx sy so lt go i ∧ (∀ d, d < N → go i d < N) ∧ zPx N sx sy so go M i := by
  have hS := hs.1
  unfold fX8_findFrom
  rw [dg_ok kShow, dg_ok kSets]
  obtain ⟨R, e, go, w1, w2, w3, w4⟩ := dlp_inv (f := fun q => dP2 q (fun v2 m3 => fX8_findFrom_l3 47 6 (Int32.ofInt (N : Int)) v2 m3)) (Q := fun (r : dM) => ∃ go : Nat → Nat → Nat, (∀ a, a < 49 ∨ (145 ≤ a ∧ a < 153) ∨ 171 ≤ a → r.1 a = m.1 a) ∧ (∀ i, i < P → r.1 (49 + 8 * i) = m.1 (49 + 8 * i)) ∧ (∀ a, a < 153 ∨ 171 ≤ a → r.2 a = m.2 a) ∧ ∀ i, i < P → zGo N sx sy so lt go i ∧ (∀ d, d < N → go i d < N) ∧ zPx N sx sy so go r i) (fun k s => s.1 = Int32.ofInt ((first + k : Nat) : Int) ∧ ∃ go : Nat → Nat → Nat, (∀ a, a < 49 ∨ (145 ≤ a ∧ a < 153) ∨ 171 ≤ a → s.2.1 a = m.1 a) ∧ (∀ i, i < P → s.2.1 (49 + 8 * i) = m.1 (49 + 8 * i)) ∧ (∀ a, a < 153 ∨ 171 ≤ a → s.2.2 a = m.2 a) ∧ ∀ i, i < first + k → zGo N sx sy so lt go i ∧ (∀ d, d < N → go i d < N) ∧ zPx N sx sy so go s.2 i) (P - first)
    (fun k s hk hs' => by
      obtain ⟨x, Q⟩ := s
      obtain ⟨j1, go, j2, j3, j4, j5⟩ := hs'
      have j1 : x = Int32.ofInt ((first + k : Nat) : Int) := j1
      have j2 : ∀ a, a < 49 ∨ (145 ≤ a ∧ a < 153) ∨ 171 ≤ a → Q.1 a = m.1 a := j2
      have j3 : ∀ i, i < P → Q.1 (49 + 8 * i) = m.1 (49 + 8 * i) := j3
      have j4 : ∀ a, a < 153 ∨ 171 ≤ a → Q.2 a = m.2 a := j4
      have j5 : ∀ i, i < first + k → zGo N sx sy so lt go i ∧ (∀ d, d < N → go i d < N) ∧ zPx N sx sy so go Q i := j5
      subst j1
      have e1 : first + (k + 1) = first + k + 1 := by omega
      rw [e1]
      have hjP : first + k < P := by omega
      clear hk e1
      generalize first + k = j at *
      have j12 : j < 12 := by omega
      obtain ⟨p1, p2, p3⟩ := hp j hjP
      obtain ⟨s1, s2, s3⟩ := kPst j12
      have gS := kSpS (show so j < 12 by omega)
      -- the starts
      have start : ∃ Q1 : dM, (∀ a, a ≠ 49 + 8 * j + 1 + 1 → a ≠ 49 + 8 * j + 1 + 2 → Q1.1 a = Q.1 a) ∧ Q1.2 = Q.2 ∧ (∀ d, d < N → Q1.1 (49 + 8 * j + 1 + 1) d = Int32.ofInt (if j = 0 then sx (so 0) d else zX sx so go (j - 1) d) ∧ Q1.1 (49 + 8 * j + 1 + 2) d = Int32.ofInt (if j = 0 then sy (so 0) d else zX sy so go (j - 1) d)) ∧ ∀ r, (if Int32.ofInt (j : Int) ≤ 0 then (fX8_sendKept Q1 (49 + 8 * j) (8 + 3 * so j) (Int32.ofInt (N : Int))).bind (fun m80 => (some (.inl (Int32.ofInt ((j + 1 : Nat) : Int), m80)) : Option ((Int32 × dM) ⊕ dM))) else if zB (lt j) = 0 then (fX8_sendKept Q1 (49 + 8 * j) (8 + 3 * so j) (Int32.ofInt (N : Int))).bind (fun m80 => some (.inl (Int32.ofInt ((j + 1 : Nat) : Int), m80))) else (fX4_send Q1 153 (49 + 8 * j) (8 + 3 * so j) (Int32.ofInt (N : Int))).bind (fun m80 => some (.inl (Int32.ofInt ((j + 1 : Nat) : Int), m80)))) = r → fX8_findFrom_l3 47 6 (Int32.ofInt (N : Int)) (Int32.ofInt (j : Int)) Q = r := by
        have pre : ∀ r, (if Int32.ofInt (j : Int) = 0 then (fX9_copy Q (49 + 8 * j + 1) (8 + 3 * so j)).bind (fun m78 => if Int32.ofInt (j : Int) ≤ 0 then (fX8_sendKept m78 (49 + 8 * j) (8 + 3 * so j) (Int32.ofInt (N : Int))).bind (fun m80 => dlet (Int32.ofInt (j : Int) + 1 : Int32) (fun v81 => (some (.inl (v81, m80)) : Option ((Int32 × dM) ⊕ dM)))) else (fX5_isLeast m78 (49 + 8 * j)).bind (fun v83 => if v83 = 0 then (fX8_sendKept m78 (49 + 8 * j) (8 + 3 * so j) (Int32.ofInt (N : Int))).bind (fun m85 => dlet (Int32.ofInt (j : Int) + 1 : Int32) (fun v86 => some (.inl (v86, m85)))) else (fX4_send m78 153 (49 + 8 * j) (8 + 3 * so j) (Int32.ofInt (N : Int))).bind (fun m88 => dlet (Int32.ofInt (j : Int) + 1 : Int32) (fun v89 => some (.inl (v89, m88)))))) else (fX8_numbered Q 47 (Int32.ofInt (j : Int) - 1)).bind (fun v59 => dg (dkg v59 6) ((fX5_ends Q v59).bind (fun v62 => dg (dkg v62 10) ((fX9_copy Q (49 + 8 * j + 1) v62).bind (fun m65 => if Int32.ofInt (j : Int) ≤ 0 then (fX8_sendKept m65 (49 + 8 * j) (8 + 3 * so j) (Int32.ofInt (N : Int))).bind (fun m67 => dlet (Int32.ofInt (j : Int) + 1 : Int32) (fun v68 => some (.inl (v68, m67)))) else (fX5_isLeast m65 (49 + 8 * j)).bind (fun v70 => if v70 = 0 then (fX8_sendKept m65 (49 + 8 * j) (8 + 3 * so j) (Int32.ofInt (N : Int))).bind (fun m72 => dlet (Int32.ofInt (j : Int) + 1 : Int32) (fun v73 => some (.inl (v73, m72)))) else (fX4_send m65 153 (49 + 8 * j) (8 + 3 * so j) (Int32.ofInt (N : Int))).bind (fun m75 => dlet (Int32.ofInt (j : Int) + 1 : Int32) (fun v76 => some (.inl (v76, m75))))))))))) = r → fX8_findFrom_l3 47 6 (Int32.ofInt (N : Int)) (Int32.ofInt (j : Int)) Q = r := by
          intro r hr
          unfold fX8_findFrom_l3 fX5_set fX5_starts
          rw [j2 47 (by omega), h3, if_neg (by rw [zi_le (by omega) (by omega) (by omega) (by omega)]; omega), fX8_numbered_ok j12, Option.bind_some, dg_ok (kPart j12), dg_ok (kPart j12), dg_ok (kPart j12), Option.bind_some, j3 j hjP, p2, fX7_numbered_ok (by omega), Option.bind_some, dg_ok gS.1, Option.bind_some, dg_ok s1.1]
          exact hr
        have least : ∀ Q1 : dM, (∀ a, a ≠ 49 + 8 * j + 1 + 1 → a ≠ 49 + 8 * j + 1 + 2 → Q1.1 a = Q.1 a) → fX5_isLeast Q1 (49 + 8 * j) = some (zB (lt j)) := fun Q1 hq => by
          unfold fX5_isLeast
          rw [dg_ok (kPart j12), hq _ (by omega) (by omega), j3 j hjP, p3, dg_ok (zB_dB _)]
        by_cases c0 : j = 0
        · subst c0
          refine ⟨zCp Q (49 + 8 * 0 + 1) (8 + 3 * so 0) 10, fun a a1 a2 => zCp_ne a1 a2, rfl, fun d hd => ?_, fun r hr => pre r ?_⟩
          · have q := hsc.2 (so 0) p1 d hd
            rw [zCp_1 (by omega), zCp_2 (by omega), j2 _ (by omega), j2 _ (by omega), if_pos rfl, if_pos rfl]
            exact q
          · rw [if_pos (by decide), fX9_copy_ok s1 gS, Option.bind_some, least _ (fun a a1 a2 => zCp_ne a1 a2), Option.bind_some, zi_1]
            exact hr
        · have j' : j - 1 < 12 := by omega
          have q5 := (j5 (j - 1) (by omega)).2.2
          refine ⟨zCp Q (49 + 8 * j + 1) (49 + 8 * (j - 1) + 4) 10, fun a a1 a2 => zCp_ne a1 a2, rfl, fun d hd => ?_, fun r hr => pre r ?_⟩
          · rw [zCp_1 (by omega), zCp_2 (by omega), if_neg c0, if_neg c0]
            exact ⟨(q5 d hd).2.1, (q5 d hd).2.2.1⟩
          · rw [if_neg (by rw [zi_nz (by omega)]; exact c0), zcc (by omega), fX8_numbered_ok j', Option.bind_some, dg_ok (kPart j'), fX5_ends_ok j', Option.bind_some, dg_ok (kPst j').2.1.1, fX9_copy_ok s1 (kPst j').2.1, Option.bind_some, least _ (fun a a1 a2 => zCp_ne a1 a2), Option.bind_some, zi_1]
            exact hr
      obtain ⟨Q1, y1, y2, y3, y4⟩ := start
      have goal : ∀ p, p < N → Q1.1 (8 + 3 * so j + 1) p = Int32.ofInt (sx (so j) p) ∧ Q1.1 (8 + 3 * so j + 2) p = Int32.ofInt (sy (so j) p) := fun p hp' => by
        rw [y1 _ (by omega) (by omega), y1 _ (by omega) (by omega), j2 _ (by omega), j2 _ (by omega)]; exact hsc.2 (so j) p1 p hp'
      -- what follows from a sending
      have done : ∀ (g : Nat → Nat) (M : dM), (∀ d, d < N → g d < N) → ((0 < j ∧ lt j = true) → zBest N (zW sx sy so go j) g) → (¬ (0 < j ∧ lt j = true) → ∀ d, d < N → g d = d) → (∀ a, a < 153 ∨ 171 ≤ a → a ≠ 49 + 8 * j + 7 → a ≠ 49 + 8 * j + 4 + 1 → a ≠ 49 + 8 * j + 4 + 2 → M.1 a = Q1.1 a) → (∀ a, a < 153 ∨ 171 ≤ a → M.2 a = Q1.2 a) → (∀ d, d < N → M.1 (49 + 8 * j + 7) d = Int32.ofInt ((g d : Nat) : Int) ∧ M.1 (49 + 8 * j + 4 + 1) d = Int32.ofInt (sx (so j) (g d)) ∧ M.1 (49 + 8 * j + 4 + 2) d = Int32.ofInt (sy (so j) (g d))) → ∃ go' : Nat → Nat → Nat, (∀ a, a < 49 ∨ (145 ≤ a ∧ a < 153) ∨ 171 ≤ a → M.1 a = m.1 a) ∧ (∀ i, i < P → M.1 (49 + 8 * i) = m.1 (49 + 8 * i)) ∧ (∀ a, a < 153 ∨ 171 ≤ a → M.2 a = m.2 a) ∧ ∀ i, i < j + 1 → zGo N sx sy so lt go' i ∧ (∀ d, d < N → go' i d < N) ∧ zPx N sx sy so go' M i := by
        intro g M g1 g2 g3 f1 f2 f3
        have gU : ∀ i, i < j → zUp go j g i = go i := fun i hi => zUp_ne (by omega)
        refine ⟨zUp go j g, fun a ha => by rw [f1 a (by omega) (by omega) (by omega) (by omega), y1 a (by omega) (by omega)]; exact j2 a ha, fun i hi => by rw [f1 _ (by omega) (by omega) (by omega) (by omega), y1 _ (by omega) (by omega)]; exact j3 i hi, fun a ha => by rw [f2 a ha, y2]; exact j4 a ha, fun i hi => ?_⟩
        by_cases c : i = j
        · subst c
          refine ⟨?_, fun d hd => by rw [zUp_at]; exact g1 d hd, fun d hd => ?_⟩
          · unfold zGo
            by_cases c1 : 0 < i ∧ lt i = true
            · rw [if_pos c1, zUp_at]
              have e : zW sx sy so (zUp go i g) i = zW sx sy so go i := by funext d p; unfold zW zX; rw [zUp_ne (show i - 1 ≠ i by omega)]
              rw [e]; exact g2 c1
            · rw [if_neg c1, zUp_at]; exact g3 c1
          · obtain ⟨k1, k2, k3⟩ := f3 d hd
            obtain ⟨k4, k5⟩ := y3 d hd
            rw [f1 (49 + 8 * i + 1 + 1) (by omega) (by omega) (by omega) (by omega), f1 (49 + 8 * i + 1 + 2) (by omega) (by omega) (by omega) (by omega)]
            unfold zX
            rw [zUp_at]
            refine ⟨k1, k2, k3, ?_⟩
            by_cases c0 : i = 0
            · subst c0
              rw [if_pos rfl] at k4 k5
              have id := g3 (by omega) d hd
              rw [zUp_at, id]; exact ⟨k4, k5⟩
            · rw [if_neg c0] at k4 k5
              rw [zUp_ne (show i - 1 ≠ i by omega)]
              exact ⟨k4, k5⟩
        · obtain ⟨h1, h2, h3'⟩ := j5 i (by omega)
          have e1 := gU i (by omega)
          have e2 := gU (i - 1) (by omega)
          refine ⟨zGo_congr e1 e2 h1, fun d hd => by rw [e1]; exact h2 d hd, zPx_congr e1 e2 (fun d hd => ?_)⟩
          rw [f1 _ (by omega) (by omega) (by omega) (by omega), f1 _ (by omega) (by omega) (by omega) (by omega), f1 _ (by omega) (by omega) (by omega) (by omega), f1 _ (by omega) (by omega) (by omega) (by omega), f1 _ (by omega) (by omega) (by omega) (by omega), y1 _ (by omega) (by omega), y1 _ (by omega) (by omega), y1 _ (by omega) (by omega), y1 _ (by omega) (by omega), y1 _ (by omega) (by omega)]
          exact h3' d hd
      have kept : ¬ (0 < j ∧ lt j = true) → ∃ M, fX8_sendKept Q1 (49 + 8 * j) (8 + 3 * so j) (Int32.ofInt (N : Int)) = some M ∧ ∃ go' : Nat → Nat → Nat, (∀ a, a < 49 ∨ (145 ≤ a ∧ a < 153) ∨ 171 ≤ a → M.1 a = m.1 a) ∧ (∀ i, i < P → M.1 (49 + 8 * i) = m.1 (49 + 8 * i)) ∧ (∀ a, a < 153 ∨ 171 ≤ a → M.2 a = m.2 a) ∧ ∀ i, i < j + 1 → zGo N sx sy so lt go' i ∧ (∀ d, d < N → go' i d < N) ∧ zPx N sx sy so go' M i := fun hno => by
        obtain ⟨M, e, x1, x2, x3⟩ := fX8_sendKept_ok hN j12 gS (by omega) goal
        exact ⟨M, e, done (fun d => d) M (fun d hd => hd) (fun z => absurd z hno) (fun _ d _ => rfl) (fun a _ a1 a2 a3 => x1 a a1 a2 a3) (fun a _ => by rw [x2]) x3⟩
      refine Or.inl ?_
      by_cases c0 : j = 0
      · obtain ⟨M, e, x⟩ := kept (by omega)
        exact ⟨_, y4 _ (by rw [if_pos (by rw [c0]; decide), e, Option.bind_some]), rfl, x⟩
      · have nz : ¬ (Int32.ofInt (j : Int) ≤ 0) := by rw [show (0 : Int32) = Int32.ofInt 0 from rfl, zi_le (by omega) (by omega) (by omega) (by omega)]; omega
        cases hl : lt j
        · obtain ⟨M, e, x⟩ := kept (by rw [hl]; intro z; exact absurd z.2 (by decide))
          exact ⟨_, y4 _ (by rw [if_neg nz, hl, if_pos (show zB false = 0 from rfl), e, Option.bind_some]), rfl, x⟩
        · have hwb : zWb N (zW sx sy so go j) := fun d p hd hp' => by
            obtain ⟨q1, q2, q3, q4⟩ := hs.2 (so j) p1 p hp'
            obtain ⟨b1, b2, b3, b4⟩ := hs.2 (so (j - 1)) (hp (j - 1) (by omega)).1 (go (j - 1) d) ((j5 (j - 1) (by omega)).2.1 d hd)
            exact zSq_in (by omega) (by omega) (by omega) (by omega) (by show 0 ≤ sx _ _; omega) (by show sx _ _ ≤ _; omega) (by show 0 ≤ sy _ _; omega) (by show sy _ _ ≤ _; omega)
          obtain ⟨M, g, e, best, x1, x2, x3⟩ := fX4_send_ok (m := Q1) (ax := fun d => zX sx so go (j - 1) d) (ay := fun d => zX sy so go (j - 1) d) (bx := fun p => sx (so j) p) (by' := fun p => sy (so j) p) (w := zW sx sy so go j) hN2 hN j12 gS (by omega) (fun d hd => by
            have := y3 d hd
            rw [if_neg c0, if_neg c0] at this; exact this) goal (fun d p => rfl) hwb
          refine ⟨_, y4 _ (by rw [if_neg nz, hl, if_neg (show ¬ zB true = 0 by decide), e, Option.bind_some]), rfl, done g M best.1.1 (fun _ => best) (fun z => absurd ⟨by omega, hl⟩ z) x1 x2 x3⟩)
    (fun s hs' => by
      obtain ⟨x, Q⟩ := s
      obtain ⟨j1, go, j2, j3, j4, j5⟩ := hs'
      have j1 : x = Int32.ofInt ((first + (P - first) : Nat) : Int) := j1
      have j2 : ∀ a, a < 49 ∨ (145 ≤ a ∧ a < 153) ∨ 171 ≤ a → Q.1 a = m.1 a := j2
      rw [show first + (P - first) = P by omega] at j1 j5
      subst j1
      refine ⟨Q, ?_, go, j2, j3, j4, j5⟩
      show fX8_findFrom_l3 47 6 (Int32.ofInt (N : Int)) (Int32.ofInt (P : Int)) Q = _
      unfold fX8_findFrom_l3
      rw [j2 47 (by omega), h3, if_pos (Int32.le_refl _)]) (P - first) 0 dFl (Int32.ofInt (first : Int), m) (by omega) (by show _ < 100000; omega) ⟨rfl, go0, fun a _ => rfl, fun i _ => rfl, fun a _ => rfl, hg⟩
  exact ⟨R, go, by rw [e]; rfl, w1, w2, w3, w4⟩
