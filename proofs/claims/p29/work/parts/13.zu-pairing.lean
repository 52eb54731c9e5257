theorem kPairRow {d : Nat} (h : d < 10) : dkg (154 + 1 + d) 22 = true ∧ dL (154 + 1 + d) = 10 := by
  have : ∀ d : Fin 10, dkg (154 + 1 + d.val) 22 = true ∧ dL (154 + 1 + d.val) = 10 := by decide +kernel
  exact this ⟨d, h⟩
theorem kd154 : dL 154 = 10 := by decide +kernel
theorem kd165 : dL 165 = 10 := by decide +kernel
theorem kd166 : dL 166 = 10 := by decide +kernel
theorem kd167 : dL 167 = 10 := by decide +kernel
theorem kd168 : dL 168 = 10 := by decide +kernel
theorem kd169 : dL 169 = 10 := by decide +kernel
theorem kd170 : dL 170 = 10 := by decide +kernel
theorem fX4_raise_ok {m : dM} {d : Nat} {x : Int64} (h : d < 10) : fX4_raise m 153 (Int32.ofInt (d : Int)) x = some (d2 m 165 d (m.2 165 d + x)) := by
  unfold fX4_raise
  rw [dg_ok kPair, fX11_isInRow_nat m h, Option.bind_some, if_neg z10, kd165, dg_ok (dIx_nat h (by decide)), dg_ok (dIx_nat h (by decide)), zi_cn (by omega), dlet_v]
theorem fX4_narrowGaps_ok {M : dM} {N d : Nat} {W v G : Nat → Int} {ud : Int} {rb : Nat → Bool} {left : Int32} (hN : N ≤ 10) (hd : d < N) (h7 : M.1 153 7 = Int32.ofInt (N : Int)) (hW : ∀ p, p < N → M.2 (154 + 1 + d) p = Int64.ofInt (W p)) (hu : M.2 165 d = Int64.ofInt ud) (hv : ∀ p, p < N → M.2 166 p = Int64.ofInt (v p)) (hr : ∀ p, p < N → M.1 170 p = zB (rb p)) (hG : ∀ p, p < N → rb p = false → M.2 167 p = Int64.ofInt (G p)) (b1 : ∀ p, p < N → -9223372036854775808 ≤ W p - ud - v p ∧ W p - ud - v p < 9223372036854775808) (b2 : ∀ p, p < N → rb p = false → -9223372036854775808 ≤ G p ∧ G p < 9223372036854775808) : ∃ M', fX4_narrowGaps M 153 (Int32.ofInt (d : Int)) left = some M' ∧ (∀ a, a ≠ 168 → M'.1 a = M.1 a) ∧ (∀ a, a ≠ 167 → M'.2 a = M.2 a) ∧ (∀ p, p < N → rb p = true → M'.2 167 p = M.2 167 p ∧ M'.1 168 p = M.1 168 p) ∧ ∀ p, p < N → rb p = false → (W p - ud - v p < G p ∧ M'.2 167 p = Int64.ofInt (W p - ud - v p) ∧ M'.1 168 p = left) ∨ (G p ≤ W p - ud - v p ∧ M'.2 167 p = Int64.ofInt (G p) ∧ M'.1 168 p = M.1 168 p) := by
  unfold fX4_narrowGaps
  rw [dg_ok kPair, fX11_isInRow_nat M (by omega), Option.bind_some, if_neg z10]
  obtain ⟨r, e, w1, w2, w3, w4⟩ := dlp_inv (f := fun q => dP2 q (fun v4 m5 => fX4_narrowGaps_l10 153 (Int32.ofInt (d : Int)) left v4 m5)) (Q := fun (r : dM) => (∀ a, a ≠ 168 → r.1 a = M.1 a) ∧ (∀ a, a ≠ 167 → r.2 a = M.2 a) ∧ (∀ p, p < N → rb p = true → r.2 167 p = M.2 167 p ∧ r.1 168 p = M.1 168 p) ∧ ∀ p, p < N → rb p = false → (W p - ud - v p < G p ∧ r.2 167 p = Int64.ofInt (W p - ud - v p) ∧ r.1 168 p = left) ∨ (G p ≤ W p - ud - v p ∧ r.2 167 p = Int64.ofInt (G p) ∧ r.1 168 p = M.1 168 p)) (fun k s => s.1 = Int32.ofInt (k : Int) ∧ (∀ a, a ≠ 168 → s.2.1 a = M.1 a) ∧ (∀ a, a ≠ 167 → s.2.2 a = M.2 a) ∧ (∀ p, p < N → (k ≤ p ∨ rb p = true) → s.2.2 167 p = M.2 167 p ∧ s.2.1 168 p = M.1 168 p) ∧ ∀ p, p < k → rb p = false → (W p - ud - v p < G p ∧ s.2.2 167 p = Int64.ofInt (W p - ud - v p) ∧ s.2.1 168 p = left) ∨ (G p ≤ W p - ud - v p ∧ s.2.2 167 p = Int64.ofInt (G p) ∧ s.2.1 168 p = M.1 168 p)) N
    (fun k s hk hs => by
      obtain ⟨x, Q⟩ := s
      obtain ⟨i1, i2, i3, i4, i5⟩ := hs
      have i1 : x = Int32.ofInt (k : Int) := i1
      have i2 : ∀ a, a ≠ 168 → Q.1 a = M.1 a := i2
      have i3 : ∀ a, a ≠ 167 → Q.2 a = M.2 a := i3
      have i4 : ∀ p, p < N → (k ≤ p ∨ rb p = true) → Q.2 167 p = M.2 167 p ∧ Q.1 168 p = M.1 168 p := i4
      have i5 : ∀ p, p < k → rb p = false → (W p - ud - v p < G p ∧ Q.2 167 p = Int64.ofInt (W p - ud - v p) ∧ Q.1 168 p = left) ∨ (G p ≤ W p - ud - v p ∧ Q.2 167 p = Int64.ofInt (G p) ∧ Q.1 168 p = M.1 168 p) := i5
      subst i1
      obtain ⟨r1, r2⟩ := kPairRow (show d < 10 by omega)
      refine Or.inl ?_
      show ∃ s', fX4_narrowGaps_l10 153 (Int32.ofInt (d : Int)) left (Int32.ofInt (k : Int)) Q = _ ∧ _
      unfold fX4_narrowGaps_l10
      rw [i2 153 (by decide), h7, if_neg (by rw [zi_le (by omega) (by omega) (by omega) (by omega)]; omega), kd154, kd165, kd166, kd170, kd167, kd168, zi_cn (by omega), zi_cn (by omega), r2, dg_ok (dIx_nat (by omega) (by decide)), dg_ok r1, dg_ok (dIx_nat (by omega) (by decide)), dg_ok (dIx_nat (by omega) (by decide)), dg_ok (dIx_nat (by omega) (by decide)), i3 (154 + 1 + d) (by omega), i3 165 (by decide), i3 166 (by decide), hW k hk, hu, hv k hk, zj_sub, zj_sub, dlet_v, dg_ok (dIx_nat (by omega) (by decide)), i2 170 (by decide), hr k hk, zi_1]
      cases hb : rb k
      · have g := i4 k hk (Or.inl (Nat.le_refl k))
        have b3 := b1 k hk
        have b4 := b2 k hk hb
        rw [if_pos (show zB false = 0 from rfl), dg_ok (dIx_nat (by omega) (by decide)), g.1, hG k hk hb]
        simp only [zcmp_ge (a := W k - ud - v k) (b := G k) b3.1 b3.2 b4.1 b4.2]
        by_cases c : G k ≤ W k - ud - v k
        · rw [if_pos c, dlet_v]
          refine ⟨_, rfl, rfl, i2, i3, fun p hp q => i4 p hp (q.imp (fun z => by omega) id), fun p hp hrp => ?_⟩
          by_cases z : p = k
          · subst z; exact Or.inr ⟨c, by show Q.2 167 p = _; rw [g.1, hG p hk hb], g.2⟩
          · exact i5 p (by omega) hrp
        · rw [if_neg c, dg_ok (dIx_nat (by omega) (by decide)), dlet_v, dg_ok (dIx_nat (by omega) (by decide)), dlet_v, dlet_v]
          refine ⟨_, rfl, rfl, fun a ha => by show (d1 (d2 Q _ _ _) _ _ _).1 a = _; rw [zd1_ne ha, zd2_1]; exact i2 a ha, fun a ha => by show (d1 (d2 Q _ _ _) _ _ _).2 a = _; rw [zd1_2, zd2_ne ha]; exact i3 a ha, fun p hp q => ?_, fun p hp hrp => ?_⟩
          · have hpk : p ≠ k := fun z => by subst z; rcases q with q | q; omega; rw [hb] at q; exact absurd q (by decide)
            show (d1 (d2 Q 167 k _) 168 k _).2 167 p = _ ∧ (d1 (d2 Q 167 k _) 168 k _).1 168 p = _
            rw [zd1_2, zd2_nk hpk, zd1_nk hpk, zd2_1]; exact i4 p hp (q.imp (fun z => by omega) id)
          · show _ ∧ (d1 (d2 Q 167 k _) 168 k _).2 167 p = _ ∧ (d1 (d2 Q 167 k _) 168 k _).1 168 p = _ ∨ _ ∧ (d1 (d2 Q 167 k _) 168 k _).2 167 p = _ ∧ (d1 (d2 Q 167 k _) 168 k _).1 168 p = _
            by_cases z : p = k
            · subst z; exact Or.inl ⟨by omega, by rw [zd1_2, zd2_at], zd1_at⟩
            · rw [zd1_2, zd2_nk z, zd1_nk z, zd2_1]; exact i5 p (by omega) hrp
      · rw [if_neg (show ¬ zB true = 0 by decide), dlet_v]
        refine ⟨_, rfl, rfl, i2, i3, fun p hp q => i4 p hp (q.imp (fun z => by omega) id), fun p hp hrp => ?_⟩
        by_cases z : p = k
        · subst z; rw [hb] at hrp; exact absurd hrp (by decide)
        · exact i5 p (by omega) hrp)
    (fun s hs => by
      obtain ⟨x, Q⟩ := s
      obtain ⟨i1, i2, i3, i4, i5⟩ := hs
      have i1 : x = Int32.ofInt (N : Int) := i1
      have i2 : ∀ a, a ≠ 168 → Q.1 a = M.1 a := i2
      subst i1
      refine ⟨Q, ?_, i2, i3, fun p hp q => i4 p hp (Or.inr q), i5⟩
      show fX4_narrowGaps_l10 153 (Int32.ofInt (d : Int)) left (Int32.ofInt (N : Int)) Q = _
      unfold fX4_narrowGaps_l10
      rw [i2 153 (by decide), h7, if_pos (Int32.le_refl _)]) N 0 dFl (0, M) (by omega) (by show N < 100000; omega) ⟨rfl, fun a _ => rfl, fun a _ => rfl, fun p _ _ => ⟨rfl, rfl⟩, fun p hp => by omega⟩
  exact ⟨r, by rw [e]; rfl, w1, w2, w3, w4⟩
theorem fX4_nearestPlace_ok {M : dM} {N q : Nat} {G : Nat → Int} {rb : Nat → Bool} (hN : N ≤ 10) (h7 : M.1 153 7 = Int32.ofInt (N : Int)) (hr : ∀ p, p < N → M.1 170 p = zB (rb p)) (hG : ∀ p, p < N → rb p = false → M.2 167 p = Int64.ofInt (G p)) (b2 : ∀ p, p < N → rb p = false → -9223372036854775808 ≤ G p ∧ G p < 9223372036854775808) (hq : q < N) (hqr : rb q = false) (hqG : G q < 9223372036854775807) : ∃ p, p < N ∧ rb p = false ∧ (∀ p', p' < N → rb p' = false → G p ≤ G p') ∧ fX4_nearestPlace M 153 = some (Int32.ofInt (p : Int)) := by
  unfold fX4_nearestPlace
  rw [dg_ok kPair]
  obtain ⟨r, e, p, w1, w2, w3, w4⟩ := dlp_inv (f := fun q => dP3 q (fun v2 v3 v4 => fX4_nearestPlace_l9 M 153 v2 v3 v4)) (Q := fun r => ∃ p, p < N ∧ rb p = false ∧ (∀ p', p' < N → rb p' = false → G p ≤ G p') ∧ r = Int32.ofInt (p : Int)) (fun k s => s.1 = Int32.ofInt (k : Int) ∧ ((s.2.1 = Int64.ofInt 9223372036854775807 ∧ s.2.2 = -1 ∧ ∀ p, p < k → rb p = false → 9223372036854775807 ≤ G p) ∨ ∃ p, p < k ∧ rb p = false ∧ s.2.1 = Int64.ofInt (G p) ∧ s.2.2 = Int32.ofInt (p : Int) ∧ ∀ p', p' < k → rb p' = false → G p ≤ G p')) N
    (fun k s hk hs => by
      obtain ⟨x, l, y⟩ := s
      obtain ⟨i1, i2⟩ := hs
      have i1 : x = Int32.ofInt (k : Int) := i1
      have i2 : (l = Int64.ofInt 9223372036854775807 ∧ y = -1 ∧ ∀ p, p < k → rb p = false → 9223372036854775807 ≤ G p) ∨ ∃ p, p < k ∧ rb p = false ∧ l = Int64.ofInt (G p) ∧ y = Int32.ofInt (p : Int) ∧ ∀ p', p' < k → rb p' = false → G p ≤ G p' := i2
      subst i1
      refine Or.inl ?_
      show ∃ s', fX4_nearestPlace_l9 M 153 (Int32.ofInt (k : Int)) l y = _ ∧ _
      unfold fX4_nearestPlace_l9
      rw [h7, if_neg (by rw [zi_le (by omega) (by omega) (by omega) (by omega)]; omega), kd170, kd167, dg_ok (dIx_nat (by omega) (by decide)), zi_cn (by omega), hr k hk, zi_1]
      cases hb : rb k
      · have b3 := b2 k hk hb
        rw [if_pos (show zB false = 0 from rfl), dg_ok (dIx_nat (by omega) (by decide)), hG k hk hb, dg_ok (dIx_nat (by omega) (by decide))]
        rcases i2 with ⟨rfl, rfl, j2⟩ | ⟨p, p1, p2, rfl, rfl, p3⟩
        · by_cases c : 9223372036854775807 ≤ G k
          · rw [if_pos (by rw [zcmp_ge (by omega) (by omega) (by omega) (by omega)]; exact c), dlet_v]
            refine ⟨_, rfl, rfl, Or.inl ⟨rfl, rfl, fun p hp hrp => ?_⟩⟩
            by_cases z : p = k
            · subst z; exact c
            · exact j2 p (by omega) hrp
          · rw [if_neg (by rw [zcmp_ge (by omega) (by omega) (by omega) (by omega)]; exact c), dlet_v, dlet_v]
            refine ⟨_, rfl, rfl, Or.inr ⟨k, by omega, hb, rfl, rfl, fun p hp hrp => ?_⟩⟩
            by_cases z : p = k
            · subst z; exact Int.le_refl _
            · have := j2 p (by omega) hrp; omega
        · have b4 := b2 p (by omega) p2
          by_cases c : G p ≤ G k
          · rw [if_pos (by rw [zcmp_ge b3.1 b3.2 b4.1 b4.2]; exact c), dlet_v]
            refine ⟨_, rfl, rfl, Or.inr ⟨p, by omega, p2, rfl, rfl, fun p' hp hrp => ?_⟩⟩
            by_cases z : p' = k
            · subst z; exact c
            · exact p3 p' (by omega) hrp
          · rw [if_neg (by rw [zcmp_ge b3.1 b3.2 b4.1 b4.2]; exact c), dlet_v, dlet_v]
            refine ⟨_, rfl, rfl, Or.inr ⟨k, by omega, hb, rfl, rfl, fun p' hp hrp => ?_⟩⟩
            by_cases z : p' = k
            · subst z; exact Int.le_refl _
            · have := p3 p' (by omega) hrp; omega
      · rw [if_neg (show ¬ zB true = 0 by decide), dlet_v]
        refine ⟨_, rfl, rfl, ?_⟩
        have nk : ∀ p, p < k + 1 → rb p = false → p < k := fun p hp hrp => by
          by_cases z : p = k
          · subst z; rw [hb] at hrp; exact absurd hrp (by decide)
          · omega
        rcases i2 with ⟨i3, i4, i2⟩ | ⟨p, p1, p2, p4, p5, p3⟩
        · exact Or.inl ⟨i3, i4, fun p hp hrp => i2 p (nk p hp hrp) hrp⟩
        · exact Or.inr ⟨p, by omega, p2, p4, p5, fun p' hp hrp => p3 p' (nk p' hp hrp) hrp⟩)
    (fun s hs => by
      obtain ⟨x, l, y⟩ := s
      obtain ⟨i1, i2⟩ := hs
      have i1 : x = Int32.ofInt (N : Int) := i1
      subst i1
      rcases i2 with ⟨_, _, i2⟩ | ⟨p, p1, p2, p4, p5, p3⟩
      · have := i2 q hq hqr; omega
      · refine ⟨y, ?_, p, p1, p2, p3, p5⟩
        show fX4_nearestPlace_l9 M 153 (Int32.ofInt (N : Int)) l y = _
        unfold fX4_nearestPlace_l9
        rw [h7, if_pos (Int32.le_refl _)]) N 0 dFl (0, 9223372036854775807, -1) (by omega) (by show N < 100000; omega) ⟨rfl, Or.inl ⟨rfl, rfl, fun p hp => by omega⟩⟩
  exact ⟨p, w1, w2, w3, by rw [e, Option.bind_some, w4]; rfl⟩
theorem fX4_movePrices_ok {M : dM} {N n : Nat} {u v G : Nat → Int} {dl : Int} {rb : Nat → Bool} {own : Nat → Nat} (hN : N ≤ 10) (hn : n < N) (h7 : M.1 153 7 = Int32.ofInt (N : Int)) (hr : ∀ p, p < N → M.1 170 p = zB (rb p)) (hu : ∀ d, d < N → M.2 165 d = Int64.ofInt (u d)) (hv : ∀ p, p < N → M.2 166 p = Int64.ofInt (v p)) (hG : ∀ p, p < N → rb p = false → M.2 167 p = Int64.ofInt (G p)) (ho : ∀ p, p < N → rb p = true → own p < N ∧ M.1 169 p = Int32.ofInt ((own p : Nat) : Int) ∧ own p ≠ n) (hi : ∀ p p', p < N → p' < N → rb p = true → rb p' = true → own p = own p' → p = p') : ∃ (M' : dM) (u' v' : Nat → Int), fX4_movePrices M 153 (Int32.ofInt (n : Int)) (Int64.ofInt dl) = some M' ∧ M'.1 = M.1 ∧ (∀ a, a ≠ 165 → a ≠ 166 → a ≠ 167 → M'.2 a = M.2 a) ∧ (∀ d, d < N → M'.2 165 d = Int64.ofInt (u' d)) ∧ (∀ p, p < N → M'.2 166 p = Int64.ofInt (v' p)) ∧ u' n = u n + dl ∧ (∀ p, p < N → rb p = true → u' (own p) = u (own p) + dl ∧ v' p = v p - dl) ∧ (∀ d, d ≠ n → (∀ p, p < N → rb p = true → own p ≠ d) → u' d = u d) ∧ (∀ p, p < N → rb p = false → v' p = v p) ∧ ∀ p, p < N → rb p = false → M'.2 167 p = Int64.ofInt (G p - dl) := by
  unfold fX4_movePrices
  rw [dg_ok kPair, fX4_raise_ok (by omega), Option.bind_some, hu n hn, zj_add]
  obtain ⟨r, e, w1, w2, u', v', w3, w4, w5, w6, w7, w8, w9⟩ := dlp_inv (f := fun q => dP2 q (fun v4 m5 => fX4_movePrices_l9 153 (Int64.ofInt dl) v4 m5)) (Q := fun (r : dM) => r.1 = M.1 ∧ (∀ a, a ≠ 165 → a ≠ 166 → a ≠ 167 → r.2 a = M.2 a) ∧ ∃ u' v' : Nat → Int, (∀ d, d < N → r.2 165 d = Int64.ofInt (u' d)) ∧ (∀ p, p < N → r.2 166 p = Int64.ofInt (v' p)) ∧ u' n = u n + dl ∧ (∀ p, p < N → rb p = true → u' (own p) = u (own p) + dl ∧ v' p = v p - dl) ∧ (∀ d, d ≠ n → (∀ p, p < N → rb p = true → own p ≠ d) → u' d = u d) ∧ (∀ p, p < N → rb p = false → v' p = v p) ∧ ∀ p, p < N → rb p = false → r.2 167 p = Int64.ofInt (G p - dl)) (fun k s => s.1 = Int32.ofInt (k : Int) ∧ s.2.1 = M.1 ∧ (∀ a, a ≠ 165 → a ≠ 166 → a ≠ 167 → s.2.2 a = M.2 a) ∧ ∃ u' v' : Nat → Int, (∀ d, d < N → s.2.2 165 d = Int64.ofInt (u' d)) ∧ (∀ p, p < N → s.2.2 166 p = Int64.ofInt (v' p)) ∧ u' n = u n + dl ∧ (∀ p, p < k → rb p = true → u' (own p) = u (own p) + dl ∧ v' p = v p - dl) ∧ (∀ d, d ≠ n → (∀ p, p < k → rb p = true → own p ≠ d) → u' d = u d) ∧ (∀ p, p < N → (k ≤ p ∨ rb p = false) → v' p = v p) ∧ (∀ p, p < k → rb p = false → s.2.2 167 p = Int64.ofInt (G p - dl)) ∧ ∀ p, k ≤ p → p < N → rb p = false → s.2.2 167 p = Int64.ofInt (G p)) N
    (fun k s hk hs => by
      obtain ⟨x, Q⟩ := s
      obtain ⟨i1, i2, i3, u', v', j1, j2, j3, j4, j5, j6, j7, j8⟩ := hs
      have i1 : x = Int32.ofInt (k : Int) := i1
      have i2 : Q.1 = M.1 := i2
      have i3 : ∀ a, a ≠ 165 → a ≠ 166 → a ≠ 167 → Q.2 a = M.2 a := i3
      have j1 : ∀ d, d < N → Q.2 165 d = Int64.ofInt (u' d) := j1
      have j2 : ∀ p, p < N → Q.2 166 p = Int64.ofInt (v' p) := j2
      have j7 : ∀ p, p < k → rb p = false → Q.2 167 p = Int64.ofInt (G p - dl) := j7
      have j8 : ∀ p, k ≤ p → p < N → rb p = false → Q.2 167 p = Int64.ofInt (G p) := j8
      subst i1
      refine Or.inl ?_
      show ∃ s', fX4_movePrices_l9 153 (Int64.ofInt dl) (Int32.ofInt (k : Int)) Q = _ ∧ _
      unfold fX4_movePrices_l9
      rw [i2, h7, if_neg (by rw [zi_le (by omega) (by omega) (by omega) (by omega)]; omega), kd170, kd167, kd169, kd166, dg_ok (dIx_nat (by omega) (by decide)), zi_cn (by omega), hr k hk, zi_1]
      cases hb : rb k
      · rw [if_pos (show zB false = 0 from rfl), dg_ok (dIx_nat (by omega) (by decide)), dg_ok (dIx_nat (by omega) (by decide)), j8 k (Nat.le_refl k) hk hb, zj_sub, dlet_v, dlet_v]
        refine ⟨_, rfl, rfl, i2, fun a a1 a2 a3 => by show (d2 Q 167 k _).2 a = _; rw [zd2_ne a3]; exact i3 a a1 a2 a3, u', v', fun d hd => by show (d2 Q 167 k _).2 165 d = _; rw [zd2_ne (by decide)]; exact j1 d hd, fun p hp => by show (d2 Q 167 k _).2 166 p = _; rw [zd2_ne (by decide)]; exact j2 p hp, j3, fun p hp hrp => ?_, fun d hd hq => j5 d hd (fun p hp hrp => hq p (by omega) hrp), fun p hp q => j6 p hp (q.imp (fun z => by omega) id), fun p hp hrp => ?_, fun p p1 p2 hrp => ?_⟩
        · by_cases z : p = k
          · subst z; rw [hb] at hrp; exact absurd hrp (by decide)
          · exact j4 p (by omega) hrp
        · show (d2 Q 167 k _).2 167 p = _
          by_cases z : p = k
          · subst z; rw [zd2_at]
          · rw [zd2_nk z]; exact j7 p (by omega) hrp
        · show (d2 Q 167 k _).2 167 p = _
          rw [zd2_nk (by omega)]; exact j8 p (by omega) p2 hrp
      · obtain ⟨o1, o2, o3⟩ := ho k hk hb
        have un : u' (own k) = u (own k) := j5 (own k) o3 (fun p hp hrp q => by have := hi p k (by omega) hk hrp hb q; omega)
        have vn : v' k = v k := j6 k hk (Or.inl (Nat.le_refl k))
        rw [if_neg (show ¬ zB true = 0 by decide), dg_ok (dIx_nat (by omega) (by decide)), o2, fX4_raise_ok (by omega), Option.bind_some, dg_ok (dIx_nat (by omega) (by decide)), dg_ok (dIx_nat (by omega) (by decide)), zd2_ne (by decide), j2 k hk, j1 _ o1, zj_add, zj_sub, dlet_v, dlet_v, un, vn]
        refine ⟨_, rfl, rfl, i2, fun a a1 a2 a3 => by show (d2 (d2 Q _ _ _) _ _ _).2 a = _; rw [zd2_ne a2, zd2_ne a1]; exact i3 a a1 a2 a3, zUp u' (own k) (u (own k) + dl), zUp v' k (v k - dl), fun d hd => ?_, fun p hp => ?_, ?_, fun p hp hrp => ?_, fun d hd hq => ?_, fun p hp q => ?_, fun p hp hrp => ?_, fun p p1 p2 hrp => ?_⟩
        · show (d2 (d2 Q 165 _ _) 166 _ _).2 165 d = _
          rw [zd2_ne (by decide)]
          by_cases z : d = own k
          · rw [z, zd2_at, zUp_at]
          · rw [zd2_nk z, zUp_ne z]; exact j1 d hd
        · show (d2 (d2 Q 165 _ _) 166 _ _).2 166 p = _
          by_cases z : p = k
          · subst z; rw [zd2_at, zUp_at]
          · rw [zd2_nk z, zd2_ne (by decide), zUp_ne z]; exact j2 p hp
        · rw [zUp_ne (fun z => o3 z.symm)]; exact j3
        · by_cases z : p = k
          · subst z; rw [zUp_at, zUp_at]; exact ⟨rfl, rfl⟩
          · rw [zUp_ne z, zUp_ne (fun q => z (hi p k (by omega) hk hrp hb q))]
            exact j4 p (by omega) hrp
        · have z : d ≠ own k := fun z => hq k (by omega) hb z.symm
          rw [zUp_ne z]
          exact j5 d hd (fun p hp hrp => hq p (by omega) hrp)
        · have z : p ≠ k := fun z => by subst z; rcases q with q | q; omega; rw [hb] at q; exact absurd q (by decide)
          rw [zUp_ne z]; exact j6 p hp (q.imp (fun z => by omega) id)
        · show (d2 (d2 Q 165 _ _) 166 _ _).2 167 p = _
          have z : p ≠ k := fun z => by subst z; rw [hb] at hrp; exact absurd hrp (by decide)
          rw [zd2_ne (by decide), zd2_ne (by decide)]; exact j7 p (by omega) hrp
        · show (d2 (d2 Q 165 _ _) 166 _ _).2 167 p = _
          rw [zd2_ne (by decide), zd2_ne (by decide)]; exact j8 p (by omega) p2 hrp)
    (fun s hs => by
      obtain ⟨x, Q⟩ := s
      obtain ⟨i1, i2, i3, u', v', j1, j2, j3, j4, j5, j6, j7, j8⟩ := hs
      have i1 : x = Int32.ofInt (N : Int) := i1
      have i2 : Q.1 = M.1 := i2
      subst i1
      refine ⟨Q, ?_, i2, i3, u', v', j1, j2, j3, j4, j5, fun p hp hrp => j6 p hp (Or.inr hrp), j7⟩
      show fX4_movePrices_l9 153 (Int64.ofInt dl) (Int32.ofInt (N : Int)) Q = _
      unfold fX4_movePrices_l9
      rw [i2, h7, if_pos (Int32.le_refl _)]) N 0 dFl (0, d2 M 165 n (Int64.ofInt (u n + dl))) (by omega) (by show N < 100000; omega) ⟨rfl, rfl, fun a a1 a2 a3 => by show (d2 M 165 n _).2 a = _; rw [zd2_ne a1], zUp u n (u n + dl), v, fun d hd => by
        show (d2 M 165 n _).2 165 d = _
        by_cases z : d = n
        · subst z; rw [zd2_at, zUp_at]
        · rw [zd2_nk z, zUp_ne z]; exact hu d hd, fun p hp => by show (d2 M 165 n _).2 166 p = _; rw [zd2_ne (by decide)]; exact hv p hp, zUp_at, fun p hp => by omega, fun d hd _ => zUp_ne hd, fun p _ _ => rfl, fun p hp => by omega, fun p _ p2 hrp => by show (d2 M 165 n _).2 167 p = _; rw [zd2_ne (by decide)]; exact hG p p2 hrp⟩
  exact ⟨r, u', v', by rw [e]; rfl, w1, w2, w3, w4, w5, w6, w7, w8, w9⟩
theorem zInj_le {s k : Nat} {f : Nat → Nat} (h : ∀ j, j < s → f j < k) (hi : ∀ i j, i < s → j < s → f i = f j → i = j) : s ≤ k := by
  rcases Nat.lt_or_ge k s with c | c
  · obtain ⟨d, hd, e⟩ := zPig s f ⟨fun d hd => by have := h d hd; omega, hi⟩ k c
    have := h d hd; omega
  · exact c
def zOwn (g : Nat → Nat) : Nat → Nat → Nat | 0, _ => 0 | k + 1, p => if g k = p then k else zOwn g k p
theorem zOwn_ok {g : Nat → Nat} : ∀ {k p d : Nat}, d < k → g d = p → zOwn g k p < k ∧ g (zOwn g k p) = p
  | 0, p, d, h, _ => by omega
  | k + 1, p, d, h, e => by
    show (if g k = p then k else zOwn g k p) < k + 1 ∧ g (if g k = p then k else zOwn g k p) = p
    by_cases c : g k = p
    · rw [if_pos c]; exact ⟨by omega, c⟩
    · rw [if_neg c]
      have hd : d < k := by
        rcases Nat.lt_or_ge d k with w | w
        · exact w
        · obtain rfl : d = k := by omega
          exact absurd e c
      obtain ⟨a, b⟩ := zOwn_ok hd e
      exact ⟨by omega, b⟩
theorem zFreeEx {N k : Nat} {g : Nat → Nat} (hk : k < N) : ∃ q, q < N ∧ ∀ d, d < k → g d ≠ q := by
  apply Classical.byContradiction
  intro h
  have all : ∀ q, q < N → ∃ d, d < k ∧ g d = q := fun q hq => by
    apply Classical.byContradiction
    intro w
    exact h ⟨q, hq, fun d hd e => w ⟨d, hd, e⟩⟩
  have := zInj_le (s := N) (k := k) (f := fun q => zOwn g k q) (fun q hq => by obtain ⟨d, hd, e⟩ := all q hq; exact (zOwn_ok hd e).1) (fun a b ha hb q => by
    obtain ⟨d, hd, e⟩ := all a ha
    obtain ⟨d', hd', e'⟩ := all b hb
    have q : zOwn g k a = zOwn g k b := q
    have e1 := (zOwn_ok hd e).2
    have e2 := (zOwn_ok hd' e').2
    rw [q] at e1; omega)
  omega
def zA (t : Nat → Nat) (l : Nat) : Int32 := if l = 0 then -1 else Int32.ofInt ((t (l - 1) : Nat) : Int)
def zTx (N k : Nat) (W : Nat → Nat → Int) (g : Nat → Nat) (s : Nat) (t o : Nat → Nat) (A : Nat → Int32) (u v : Nat → Int) (c sg : Int) : Prop :=
  ((∀ j, j < s → t j < N) ∧ (∀ i j, i < s → j < s → t i = t j → i = j) ∧ o 0 = k ∧ ∀ j, j + 1 < s → o (j + 1) < k ∧ g (o (j + 1)) = t j) ∧
  (∀ j, j < s → ∃ l, l ≤ j ∧ A (t j) = zA t l ∧ u (o l) + v (t j) = W (o l) (t j)) ∧
  ((∀ d p, d < k → p < N → u d + v p ≤ W d p) ∧ (∀ d, d < k → u d + v (g d) = W d (g d)) ∧ (0 < s → ∀ p, p < N → u k + v p ≤ W k p)) ∧
  (∀ d, d < N → 0 ≤ u d ∧ u d ≤ c + sg) ∧ u k = sg ∧ (∀ d, k < d → d < N → u d = 0) ∧ (∀ p, p < N → -(c + sg) ≤ v p ∧ v p ≤ 0) ∧ (∀ p, p < N → (∀ d, d < k → g d ≠ p) → v p = 0) ∧ 0 ≤ sg ∧ sg ≤ 60000000000000000 ∧ (s = 0 → sg = 0)
def zTh (N k : Nat) (W : Nat → Nat → Int) (g : Nat → Nat) (s : Nat) (t o : Nat → Nat) (rb : Nat → Bool) (A : Nat → Int32) (G u v : Nat → Int) (c sg : Int) : Prop :=
  zTx N k W g s t o A u v c sg ∧ (∀ j, j < s → o (j + 1) < k ∧ g (o (j + 1)) = t j) ∧ (∀ p, p < N → (rb p = true ↔ ∃ j, j < s ∧ t j = p)) ∧
  ∀ p, p < N → rb p = false → (s = 0 ∧ G p = 9223372036854775807) ∨ ∃ l, l < s ∧ G p = W (o l) p - u (o l) - v p ∧ A p = zA t l ∧ ∀ l', l' < s → G p ≤ W (o l') p - u (o l') - v p
theorem zTh_le {N k s : Nat} {W : Nat → Nat → Int} {g t o : Nat → Nat} {rb : Nat → Bool} {A : Nat → Int32} {G u v : Nat → Int} {c sg : Int} (h : zTh N k W g s t o rb A G u v c sg) : s ≤ k := by
  obtain ⟨⟨⟨t1, t2, _⟩, _⟩, h2, _⟩ := h
  refine zInj_le (f := fun j => o (j + 1)) (fun j hj => (h2 j hj).1) (fun i j hi hj q => ?_)
  have q : o (i + 1) = o (j + 1) := q
  have a := (h2 i hi).2
  have b := (h2 j hj).2
  rw [q] at a
  exact t2 i j hi hj (by omega)
/-- the tree grows by a place: what of it is pure reckoning -/
theorem zTree {N k s p : Nat} {W : Nat → Nat → Int} {g t o : Nat → Nat} {rb : Nat → Bool} {A A1 : Nat → Int32} {G G1 u v u' v' : Nat → Int} {c sg : Int} (hN : N ≤ 10) (hk : k < N) (hc : 0 ≤ c) (hc2 : c ≤ 600000000000000000) (hW : ∀ d p, d < N → p < N → 0 ≤ W d p ∧ W d p ≤ 60000000000000000) (gi : ∀ d, d < k → g d < N) (gj : ∀ d e, d < k → e < k → g d = g e → d = e) (h : zTh N k W g s t o rb A G u v c sg)
    (nar1 : ∀ q, q < N → rb q = true → A1 q = A q) (nar2 : ∀ q, q < N → rb q = false → (W (o s) q - u (o s) - v q < G q ∧ G1 q = W (o s) q - u (o s) - v q ∧ A1 q = zA t s) ∨ (G q ≤ W (o s) q - u (o s) - v q ∧ G1 q = G q ∧ A1 q = A q))
    (hp : p < N) (hpr : rb p = false) (least : ∀ q, q < N → rb q = false → G1 p ≤ G1 q)
    (mv1 : u' k = u k + G1 p) (mv2 : ∀ j, j < s → u' (o (j + 1)) = u (o (j + 1)) + G1 p ∧ v' (t j) = v (t j) - G1 p) (mv3 : ∀ d, d ≠ k → (∀ j, j < s → o (j + 1) ≠ d) → u' d = u d) (mv4 : ∀ q, q < N → rb q = false → v' q = v q) :
    zTx N k W g (s + 1) (zUp t s p) o A1 u' v' c (sg + G1 p) ∧ ∀ d, d < k → g d = p → zTh N k W g (s + 1) (zUp t s p) (zUp o (s + 1) d) (zUp rb p true) A1 (fun q => G1 q - G1 p) u' v' c (sg + G1 p) := by
  have hsk := zTh_le h
  obtain ⟨⟨⟨t1, t2, t3, t4⟩, a1, ⟨f1, f2, f3⟩, b1, b2, b3, b4, b5, b6, b7, b8⟩, o1, r1, g1⟩ := h
  -- the tree's dots
  have inT : ∀ l, l ≤ s → (l = 0 ∧ o l = k) ∨ ∃ j, l = j + 1 ∧ j < s ∧ o l < k ∧ g (o l) = t j := fun l hl => by
    rcases Nat.eq_zero_or_pos l with c | c
    · subst c; exact Or.inl ⟨rfl, t3⟩
    · refine Or.inr ⟨l - 1, by omega, by omega, ?_⟩
      have := o1 (l - 1) (by omega)
      rw [show l - 1 + 1 = l by omega] at this
      exact this
  have ou : ∀ l, l ≤ s → u' (o l) = u (o l) + G1 p := fun l hl => by
    rcases inT l hl with ⟨w, e⟩ | ⟨j, w, hj, _, _⟩
    · rw [e]; exact mv1
    · rw [w]; exact (mv2 j hj).1
  -- what the gaps are now
  have gap : ∀ q, q < N → rb q = false → ∃ l, l < s + 1 ∧ G1 q = W (o l) q - u (o l) - v q ∧ A1 q = zA t l ∧ ∀ l', l' < s + 1 → G1 q ≤ W (o l') q - u (o l') - v q := fun q hq hr => by
    rcases nar2 q hq hr with ⟨x1, x2, x3⟩ | ⟨x1, x2, x3⟩
    · refine ⟨s, by omega, x2, x3, fun l' hl' => ?_⟩
      by_cases w : l' = s
      · subst w; omega
      · rcases g1 q hq hr with ⟨y1, y2⟩ | ⟨l, y1, y2, y3, y4⟩
        · omega
        · have := y4 l' (by omega); omega
    · rcases g1 q hq hr with ⟨y1, y2⟩ | ⟨l, y1, y2, y3, y4⟩
      · exfalso
        subst y1
        have e0 := t3
        have w1 := hW k q hk hq
        have w2 := b4 q hq
        have w3 := b8 rfl
        rw [e0] at x1
        omega
      · refine ⟨l, by omega, by rw [x2]; exact y2, by rw [x3]; exact y3, fun l' hl' => ?_⟩
        by_cases w : l' = s
        · subst w; omega
        · have := y4 l' (by omega); omega
  obtain ⟨l0, l1, l2, l3, l4⟩ := gap p hp hpr
  have pos : 0 ≤ G1 p := by
    rcases Nat.eq_zero_or_pos s with w | w
    · have z : l0 = 0 := by omega
      rw [z, t3] at l2
      have w1 := hW k p hk hp
      have w2 := b4 p hp
      have w3 := b8 w
      omega
    · rcases inT l0 (by omega) with ⟨_, e⟩ | ⟨j, _, _, e, _⟩
      · rw [e] at l2
        have := f3 w p hp; omega
      · have := f1 (o l0) p e hp; omega
  have rT : ∀ q, q < N → rb q = true → ∃ j, j < s ∧ t j = q := fun q hq hr => (r1 q hq).mp hr
  have vT : ∀ q, q < N → rb q = true → v' q = v q - G1 p := fun q hq hr => by
    obtain ⟨j, hj, e⟩ := rT q hq hr
    rw [← e]; exact (mv2 j hj).2
  have ub : ∀ q, q < N → rb q = true ∨ rb q = false := fun q _ => by cases rb q; exact Or.inr rfl; exact Or.inl rfl
  have dT : ∀ d, d ≠ k → (∃ j, j < s ∧ o (j + 1) = d) ∨ u' d = u d := fun d hd => by
    by_cases w : ∃ j, j < s ∧ o (j + 1) = d
    · exact Or.inl w
    · exact Or.inr (mv3 d hd (fun j hj e => w ⟨j, hj, e⟩))
  have f1' : ∀ d q, d < k → q < N → u' d + v' q ≤ W d q := fun d q hd hq => by
    have f := f1 d q hd hq
    rcases dT d (by omega) with ⟨j, hj, e⟩ | e
    · have ud := (mv2 j hj).1
      rw [e] at ud
      rcases ub q hq with w | w
      · rw [ud, vT q hq w]; omega
      · obtain ⟨_, _, _, _, l4'⟩ := gap q hq w
        have z := l4' (j + 1) (by omega)
        have le := least q hq w
        rw [e] at z
        rw [ud, mv4 q hq w]; omega
    · rcases ub q hq with w | w
      · rw [e, vT q hq w]; omega
      · rw [e, mv4 q hq w]; omega
  have f2' : ∀ d, d < k → u' d + v' (g d) = W d (g d) := fun d hd => by
    have f := f2 d hd
    have gd := gi d hd
    rcases dT d (by omega) with ⟨j, hj, e⟩ | e
    · have ud := (mv2 j hj).1
      rw [e] at ud
      have gt := (o1 j hj).2
      rw [e] at gt
      have vd := (mv2 j hj).2
      rw [← gt] at vd
      omega
    · rcases ub (g d) gd with w | w
      · obtain ⟨j, hj, e2⟩ := rT (g d) gd w
        have gt := (o1 j hj).2
        have z := gj (o (j + 1)) d (o1 j hj).1 hd (by omega)
        have ud := (mv2 j hj).1
        have vd := (mv2 j hj).2
        rw [z] at ud
        rw [e2] at vd
        omega
      · rw [e, mv4 _ gd w]; exact f
  have f3' : ∀ q, q < N → u' k + v' q ≤ W k q := fun q hq => by
    rcases ub q hq with w | w
    · obtain ⟨j, hj, _⟩ := rT q hq w
      have := f3 (by omega) q hq
      rw [mv1, vT q hq w]; omega
    · obtain ⟨_, _, _, _, l4'⟩ := gap q hq w
      have z := l4' 0 (by omega)
      have le := least q hq w
      rw [t3] at z
      rw [mv1, mv4 q hq w]; omega
  obtain ⟨q0, q1, q2⟩ := zFreeEx (g := g) hk
  have q0r : rb q0 = false := by
    rcases ub q0 q1 with w | w
    · obtain ⟨j, hj, e⟩ := rT q0 q1 w
      exact absurd ((o1 j hj).2.trans e) (q2 _ (o1 j hj).1)
    · exact w
  have sgB : sg + G1 p ≤ 60000000000000000 := by
    have z := f3' q0 q1
    have w1 := (hW k q0 hk q1).2
    have w2 := b5 q0 q1 q2
    rw [mv1, mv4 q0 q1 q0r, b2, w2] at z
    omega
  have pt : ∀ j, j < s → t j ≠ p := fun j hj e => by
    have := (r1 p hp).mpr ⟨j, hj, e⟩
    rw [hpr] at this; exact absurd this (by decide)
  have tU : ∀ j, j < s → zUp t s p j = t j := fun j hj => zUp_ne (by omega)
  have zAU : ∀ l, l ≤ s → zA (zUp t s p) l = zA t l := fun l hl => by
    unfold zA
    by_cases w : l = 0
    · rw [if_pos w, if_pos w]
    · rw [if_neg w, if_neg w, zUp_ne (by omega)]
  have X : ∀ o' : Nat → Nat, (∀ l, l ≤ s → o' l = o l) → zTx N k W g (s + 1) (zUp t s p) o' A1 u' v' c (sg + G1 p) := fun o' ho => by
    refine ⟨⟨fun j hj => ?_, fun i j hi hj q => ?_, by rw [ho 0 (by omega)]; exact t3, fun j hj => ?_⟩, fun j hj => ?_, ⟨f1', f2', fun _ => f3'⟩, fun d hd => ?_, by rw [mv1, b2], fun d d1 d2 => ?_, fun q hq => ?_, fun q hq hf => ?_, by omega, sgB, fun z => by omega⟩
    · by_cases w : j = s
      · rw [w, zUp_at]; exact hp
      · rw [zUp_ne w]; exact t1 j (by omega)
    · by_cases w : i = s
      · by_cases w2 : j = s
        · omega
        · rw [w, zUp_at, zUp_ne w2] at q; exact absurd q.symm (pt j (by omega))
      · by_cases w2 : j = s
        · rw [w2, zUp_at, zUp_ne w] at q; exact absurd q (pt i (by omega))
        · rw [zUp_ne w, zUp_ne w2] at q; exact t2 i j (by omega) (by omega) q
    · rw [ho (j + 1) (by omega), tU j (by omega)]; exact o1 j (by omega)
    · by_cases w : j = s
      · refine ⟨l0, by omega, ?_, ?_⟩
        · rw [w, zUp_at, zAU l0 (by omega)]; exact l3
        · rw [w, zUp_at, ho l0 (by omega), ou l0 (by omega), mv4 p hp hpr]; omega
      · obtain ⟨l, y1, y2, y3⟩ := a1 j (by omega)
        have rj := (r1 (t j) (t1 j (by omega))).mpr ⟨j, by omega, rfl⟩
        refine ⟨l, y1, ?_, ?_⟩
        · rw [zUp_ne w, zAU l (by omega), nar1 _ (t1 j (by omega)) rj]; exact y2
        · rw [zUp_ne w, ho l (by omega), ou l (by omega), (mv2 j (by omega)).2]; omega
    · have bd := b1 d hd
      by_cases w : d = k
      · rw [w, mv1, b2]; omega
      · rcases dT d w with ⟨j, hj, e⟩ | e
        · have ud := (mv2 j hj).1
          rw [e] at ud; omega
        · rw [e]; omega
    · rcases dT d (by omega) with ⟨j, hj, e⟩ | e
      · have := (o1 j hj).1; omega
      · rw [e]; exact b3 d d1 d2
    · have bq := b4 q hq
      rcases ub q hq with w | w
      · rw [vT q hq w]; omega
      · rw [mv4 q hq w]; omega
    · rcases ub q hq with w | w
      · obtain ⟨j, hj, e⟩ := rT q hq w
        exact absurd ((o1 j hj).2.trans e) (hf _ (o1 j hj).1)
      · rw [mv4 q hq w]; exact b5 q hq hf
  refine ⟨X o (fun l _ => rfl), fun d hd hgd => ⟨X _ (fun l hl => zUp_ne (by omega)), fun j hj => ?_, fun q hq => ?_, fun q hq hr => Or.inr ?_⟩⟩
  · by_cases w : j = s
    · subst w; rw [zUp_at, zUp_at]; exact ⟨hd, hgd⟩
    · rw [zUp_ne (show j + 1 ≠ s + 1 by omega), zUp_ne w]; exact o1 j (by omega)
  · by_cases w : q = p
    · subst w
      rw [zUp_at]
      exact ⟨fun _ => ⟨s, by omega, zUp_at⟩, fun _ => rfl⟩
    · rw [zUp_ne w, r1 q hq]
      constructor
      · rintro ⟨j, hj, e⟩; exact ⟨j, by omega, by rw [tU j hj]; exact e⟩
      · rintro ⟨j, hj, e⟩
        by_cases z : j = s
        · rw [z, zUp_at] at e; exact absurd e.symm w
        · exact ⟨j, by omega, by rw [zUp_ne z] at e; exact e⟩
  · have w : q ≠ p := fun z => by subst z; rw [zUp_at] at hr; exact absurd hr (by decide)
    rw [zUp_ne w] at hr
    obtain ⟨l, y1, y2, y3, y4⟩ := gap q hq hr
    refine ⟨l, y1, ?_, ?_, fun l' hl' => ?_⟩
    · show G1 q - G1 p = _
      rw [zUp_ne (show l ≠ s + 1 by omega), ou l (by omega), mv4 q hq hr]; omega
    · rw [zAU l (by omega)]; exact y3
    · have z := y4 l' hl'
      show G1 q - G1 p ≤ _
      rw [zUp_ne (show l' ≠ s + 1 by omega), ou l' (by omega), mv4 q hq hr]; omega
