def zHo (N k : Nat) (g : Nat → Nat) (M : dM) : Prop := (∀ d, d < k → g d < N ∧ M.1 169 (g d) = Int32.ofInt (d : Int)) ∧ ∀ p, p < N → (M.1 169 p = -1 ∧ ∀ d, d < k → g d ≠ p) ∨ ∃ d, d < k ∧ g d = p
theorem zHo_inj {N k : Nat} {g : Nat → Nat} {M : dM} (h : zHo N k g M) (hk : k ≤ 10) : ∀ d e, d < k → e < k → g d = g e → d = e := fun d e hd he q => by
  have a := (h.1 d hd).2
  have b := (h.1 e he).2
  rw [q, b] at a
  have z : (Int32.ofInt (e : Int) = Int32.ofInt (d : Int)) = ((e : Int) = d) := zi_eq (by omega) (by omega) (by omega) (by omega)
  rw [z] at a; omega
def zB0 (N k : Nat) (W : Nat → Nat → Int) (g : Nat → Nat) (m0 : dM) : Prop := m0.1 153 7 = Int32.ofInt (N : Int) ∧ (∀ d p, d < N → p < N → m0.2 (154 + 1 + d) p = Int64.ofInt (W d p)) ∧ zHo N k g m0
def zBm (m0 : dM) (N : Nat) (rb : Nat → Bool) (G u v : Nat → Int) (M : dM) : Prop := (∀ a, a ≠ 168 → a ≠ 170 → M.1 a = m0.1 a) ∧ (∀ a, a ≠ 165 → a ≠ 166 → a ≠ 167 → M.2 a = m0.2 a) ∧ (∀ d, d < N → M.2 165 d = Int64.ofInt (u d)) ∧ (∀ p, p < N → M.2 166 p = Int64.ofInt (v p)) ∧ (∀ p, p < N → M.1 170 p = zB (rb p)) ∧ ∀ p, p < N → rb p = false → M.2 167 p = Int64.ofInt (G p)
theorem zBr_step {m0 M : dM} {N k s : Nat} {W : Nat → Nat → Int} {g t o : Nat → Nat} {rb : Nat → Bool} {G u v : Nat → Int} {c sg : Int} (hN : N ≤ 10) (hk : k < N) (hc : 0 ≤ c) (hc2 : c ≤ 600000000000000000) (hW : ∀ d p, d < N → p < N → 0 ≤ W d p ∧ W d p ≤ 60000000000000000) (h0 : zB0 N k W g m0) (hM : zBm m0 N rb G u v M) (h : zTh N k W g s t o rb (M.1 168) G u v c sg) : ∃ (M' : dM) (rb' : Nat → Bool) (G' u' v' : Nat → Int) (t' : Nat → Nat) (sg' : Int) (p : Nat), fX4_bringIn_l46 153 (Int32.ofInt (k : Int)) (Int32.ofInt (s : Int)) (zA t s) (Int32.ofInt ((o s : Nat) : Int)) M = some (.inl (Int32.ofInt ((s + 1 : Nat) : Int), Int32.ofInt (p : Int), m0.1 169 p, M')) ∧ zBm m0 N rb' G' u' v' M' ∧ p < N ∧ t' s = p ∧ zTx N k W g (s + 1) t' o (M'.1 168) u' v' c sg' ∧ ∀ d, d < k → g d = p → zTh N k W g (s + 1) t' (zUp o (s + 1) d) rb' (M'.1 168) G' u' v' c sg' := by
  obtain ⟨h7, hWm, hH⟩ := h0
  obtain ⟨m1, m2, m3, m4, m5, m6⟩ := hM
  have hsk := zTh_le h
  have hfull := h
  obtain ⟨⟨⟨t1, t2, t3, t4⟩, a1, ⟨f1, f2, f3⟩, b1, b2, b3, b4, b5, b6, b7, b8⟩, o1, r1, g1⟩ := h
  have gi : ∀ d, d < k → g d < N := fun d hd => (hH.1 d hd).1
  have gj := zHo_inj hH (by omega)
  have oN : ∀ l, l ≤ s → o l < N := fun l hl => by
    rcases Nat.eq_zero_or_pos l with w | w
    · rw [w, t3]; exact hk
    · have := (o1 (l - 1) (by omega)).1
      rw [show l - 1 + 1 = l by omega] at this; omega
  have os := oN s (Nat.le_refl s)
  have bg : ∀ l q, l ≤ s → q < N → -9000000000000000000 ≤ W (o l) q - u (o l) - v q ∧ W (o l) q - u (o l) - v q < 9000000000000000000 := fun l q hl hq => by
    have w1 := hW (o l) q (oN l hl) hq
    have w2 := b1 (o l) (oN l hl)
    have w3 := b4 q hq
    omega
  have bG : ∀ q, q < N → rb q = false → -9223372036854775808 ≤ G q ∧ G q < 9223372036854775808 := fun q hq hr => by
    rcases g1 q hq hr with ⟨_, y⟩ | ⟨l, y1, y2, _⟩
    · omega
    · have := bg l q (by omega) hq; omega
  have h7M : M.1 153 7 = Int32.ofInt (N : Int) := by rw [m1 153 (by decide) (by decide)]; exact h7
  obtain ⟨M1, e1, n1, n2, n3, n4⟩ := fX4_narrowGaps_ok (M := M) (N := N) (d := o s) (W := W (o s)) (v := v) (G := G) (ud := u (o s)) (rb := rb) (left := zA t s) hN os h7M (fun p hp => by rw [m2 (154 + 1 + o s) (by omega) (by omega) (by omega)]; exact hWm (o s) p os hp) (m3 (o s) os) m4 m5 m6 (fun p hp => by have := bg s p (Nat.le_refl s) hp; omega) bG
  -- the gaps as they are now
  have G1ex : ∃ G1 : Nat → Int, ∀ q, q < N → rb q = false → M1.2 167 q = Int64.ofInt (G1 q) ∧ ((W (o s) q - u (o s) - v q < G q ∧ G1 q = W (o s) q - u (o s) - v q ∧ M1.1 168 q = zA t s) ∨ (G q ≤ W (o s) q - u (o s) - v q ∧ G1 q = G q ∧ M1.1 168 q = M.1 168 q)) := by
    refine ⟨fun q => if W (o s) q - u (o s) - v q < G q then W (o s) q - u (o s) - v q else G q, fun q hq hr => ?_⟩
    show _ = Int64.ofInt (if W (o s) q - u (o s) - v q < G q then W (o s) q - u (o s) - v q else G q) ∧ (_ ∧ (if W (o s) q - u (o s) - v q < G q then W (o s) q - u (o s) - v q else G q) = _ ∧ _ ∨ _ ∧ (if W (o s) q - u (o s) - v q < G q then W (o s) q - u (o s) - v q else G q) = _ ∧ _)
    rcases n4 q hq hr with ⟨x1, x2, x3⟩ | ⟨x1, x2, x3⟩
    · rw [if_pos x1]; exact ⟨x2, Or.inl ⟨x1, rfl, x3⟩⟩
    · rw [if_neg (by omega)]; exact ⟨x2, Or.inr ⟨x1, rfl, x3⟩⟩
  obtain ⟨G1, G1p⟩ := G1ex
  have G1le : ∀ q, q < N → rb q = false → G1 q ≤ W (o s) q - u (o s) - v q := fun q hq hr => by
    rcases (G1p q hq hr).2 with ⟨x1, x2, x3⟩ | ⟨x1, x2, x3⟩ <;> omega
  have bG1 : ∀ q, q < N → rb q = false → -9223372036854775808 ≤ G1 q ∧ G1 q < 9223372036854775808 := fun q hq hr => by
    have := bG q hq hr
    have z := bg s q (Nat.le_refl s) hq
    rcases (G1p q hq hr).2 with ⟨x1, x2, x3⟩ | ⟨x1, x2, x3⟩ <;> omega
  have h7M1 : M1.1 153 7 = Int32.ofInt (N : Int) := by rw [n1 153 (by decide)]; exact h7M
  have r5 : ∀ p, p < N → M1.1 170 p = zB (rb p) := fun p hp => by rw [n1 170 (by decide)]; exact m5 p hp
  obtain ⟨q0, q1, q2⟩ := zFreeEx (g := g) hk
  have q0r : rb q0 = false := by
    cases w : rb q0
    · rfl
    · obtain ⟨j, hj, e⟩ := (r1 q0 q1).mp w
      exact absurd ((o1 j hj).2.trans e) (q2 _ (o1 j hj).1)
  obtain ⟨p, p1, p2, p3, p4⟩ := fX4_nearestPlace_ok hN h7M1 r5 (fun q hq hr => (G1p q hq hr).1) bG1 q1 q0r (by have := G1le q0 q1 q0r; have z := bg s q0 (Nat.le_refl s) q1; omega)
  have hown : ∀ q, q < N → rb q = true → ∃ j, j < s ∧ t j = q ∧ zOwn g k q = o (j + 1) := fun q hq hr => by
    obtain ⟨j, hj, e⟩ := (r1 q hq).mp hr
    obtain ⟨x1, x2⟩ := o1 j hj
    obtain ⟨y1, y2⟩ := zOwn_ok x1 (x2.trans e)
    exact ⟨j, hj, e, gj _ _ y1 x1 (by omega)⟩
  obtain ⟨M2, u', v', e2, c1, c2, c3, c4, c5, c6, c7, c8, c9⟩ := fX4_movePrices_ok (M := M1) (N := N) (n := k) (u := u) (v := v) (G := G1) (dl := G1 p) (rb := rb) (own := fun q => zOwn g k q) hN hk h7M1 r5 (fun d hd => by rw [n2 165 (by decide)]; exact m3 d hd) (fun q hq => by rw [n2 166 (by decide)]; exact m4 q hq) (fun q hq hr => (G1p q hq hr).1) (fun q hq hr => by
    obtain ⟨j, hj, e, z⟩ := hown q hq hr
    obtain ⟨x1, x2⟩ := o1 j hj
    show zOwn g k q < N ∧ M1.1 169 q = Int32.ofInt ((zOwn g k q : Nat) : Int) ∧ zOwn g k q ≠ k
    rw [z]
    refine ⟨by omega, ?_, by omega⟩
    rw [n1 169 (by decide), m1 169 (by decide) (by decide), ← e, ← x2]
    exact (hH.1 _ x1).2) (fun a b ha hb ra rb' q => by
    obtain ⟨j, hj, e, z⟩ := hown a ha ra
    obtain ⟨j', hj', e', z'⟩ := hown b hb rb'
    have q : zOwn g k a = zOwn g k b := q
    have x := (o1 j hj).2
    have x' := (o1 j' hj').2
    rw [z, z'] at q
    rw [q] at x; omega)
  obtain ⟨T1, T2⟩ := zTree (p := p) (A1 := M1.1 168) (G1 := G1) (u' := u') (v' := v') hN hk hc hc2 hW gi gj hfull (fun q hq hr => (n3 q hq hr).2) (fun q hq hr => (G1p q hq hr).2) p1 p2 p3 c5 (fun j hj => by
    have rj := (r1 (t j) (t1 j hj)).mpr ⟨j, hj, rfl⟩
    obtain ⟨x1, x2⟩ := o1 j hj
    obtain ⟨y1, y2⟩ := zOwn_ok x1 x2
    have z : zOwn g k (t j) = o (j + 1) := gj _ _ y1 x1 (by omega)
    have w := c6 (t j) (t1 j hj) rj
    have w : u' (zOwn g k (t j)) = u (zOwn g k (t j)) + G1 p ∧ v' (t j) = v (t j) - G1 p := w
    rw [z] at w; exact w) (fun d hd hq => c7 d hd (fun q hq' hr => by
    obtain ⟨j, hj, e, z⟩ := hown q hq' hr
    show zOwn g k q ≠ d
    rw [z]; exact hq j hj)) c8
  have A2 : (d1 M2 170 p 1).1 168 = M1.1 168 := by rw [zd1_ne (by decide), c1]
  have h169 : (d1 M2 170 p 1).1 169 p = m0.1 169 p := by rw [zd1_ne (by decide), c1, n1 169 (by decide), m1 169 (by decide) (by decide)]
  refine ⟨d1 M2 170 p 1, zUp rb p true, fun q => G1 q - G1 p, u', v', zUp t s p, sg + G1 p, p, ?_, ⟨fun a a1 a2 => by rw [zd1_ne a2, c1, n1 a a1]; exact m1 a a1 a2, fun a a1 a2 a3 => by rw [zd1_2, c2 a a1 a2 a3, n2 a a3]; exact m2 a a1 a2 a3, c3, c4, fun q hq => ?_, fun q hq hr => ?_⟩, p1, zUp_at, by rw [A2]; exact T1, by rw [A2]; exact T2⟩
  · unfold fX4_bringIn_l46
    rw [h7M, if_neg (by rw [zi_le (by omega) (by omega) (by omega) (by omega)]; omega), if_neg (by rw [show (-1 : Int32) = Int32.ofInt (-1) from rfl, zi_eq (by omega) (by omega) (by omega) (by omega)]; omega), e1, Option.bind_some, p4, Option.bind_some, fX11_isInRow_nat M1 (by omega), Option.bind_some, if_neg z10, kd167, kd170, kd169, dg_ok (dIx_nat (by omega) (by decide)), zi_cn (by omega), (G1p p p1 p2).1, e2, Option.bind_some, dg_ok (dIx_nat (by omega) (by decide)), dlet_v, dg_ok (dIx_nat (by omega) (by decide)), dlet_v, dlet_v, h169, zi_1]
    rfl
  · by_cases z : q = p
    · subst z; rw [zd1_at, zUp_at]; rfl
    · rw [zd1_nk z, zUp_ne z, c1]; exact r5 q hq
  · have z : q ≠ p := fun z => by subst z; rw [zUp_at] at hr; exact absurd hr (by decide)
    rw [zUp_ne z] at hr
    show M2.2 167 q = _
    exact c9 q hq hr
theorem zBr_loop {m0 : dM} {N k : Nat} {W : Nat → Nat → Int} {g : Nat → Nat} {c : Int} (hN : N ≤ 10) (hk : k < N) (hc : 0 ≤ c) (hc2 : c ≤ 600000000000000000) (hW : ∀ d p, d < N → p < N → 0 ≤ W d p ∧ W d p ≤ 60000000000000000) (h0 : zB0 N k W g m0) : ∀ (j s : Nat) (M : dM) (rb : Nat → Bool) (G u v : Nat → Int) (t o : Nat → Nat) (sg : Int) (n : Nat), s + j = k → zBm m0 N rb G u v M → zTh N k W g s t o rb (M.1 168) G u v c sg → j + 3 ≤ n → ∃ (M' : dM) (rb' : Nat → Bool) (G' u' v' : Nat → Int) (t' o' : Nat → Nat) (sg' : Int) (s' p : Nat), dlp (fun q => dP4 q (fun v14 v15 v16 m17 => fX4_bringIn_l46 153 (Int32.ofInt (k : Int)) v14 v15 v16 m17)) n (Int32.ofInt (s : Int), zA t s, Int32.ofInt ((o s : Nat) : Int), M) = some (.inr (Int32.ofInt (p : Int), M')) ∧ zBm m0 N rb' G' u' v' M' ∧ p < N ∧ s' ≤ k ∧ t' s' = p ∧ (∀ d, d < k → g d ≠ p) ∧ zTx N k W g (s' + 1) t' o' (M'.1 168) u' v' c sg'
  | j, s, M, rb, G, u, v, t, o, sg, 0, hj, hM, h, hn => by omega
  | j, s, M, rb, G, u, v, t, o, sg, n + 1, hj, hM, h, hn => by
    have hsk := zTh_le h
    obtain ⟨M', rb', G', u', v', t', sg', p, e, x1, x2, x3, x4, x5⟩ := zBr_step hN hk hc hc2 hW h0 hM h
    rw [dlp1 (s' := (Int32.ofInt ((s + 1 : Nat) : Int), Int32.ofInt (p : Int), m0.1 169 p, M')) e]
    rcases h0.2.2.2 p x2 with ⟨y1, y2⟩ | ⟨d, y1, y2⟩
    · -- a free place: the tree is done
      match n, hn with
      | n + 1, hn =>
        refine ⟨M', rb', G', u', v', t', o, sg', s, p, ?_, x1, x2, hsk, x3, y2, x4⟩
        refine dlp2 ?_
        show fX4_bringIn_l46 153 (Int32.ofInt (k : Int)) (Int32.ofInt ((s + 1 : Nat) : Int)) (Int32.ofInt (p : Int)) (m0.1 169 p) M' = _
        unfold fX4_bringIn_l46
        rw [y1, x1.1 153 (by decide) (by decide), h0.1]
        by_cases w : Int32.ofInt (N : Int) ≤ Int32.ofInt ((s + 1 : Nat) : Int)
        · rw [if_pos w]
        · rw [if_neg w, if_pos rfl]
    · have H := x5 d y1 y2
      have le := zTh_le H
      match j, hj, hn with
      | 0, hj, hn => omega
      | j + 1, hj, hn =>
        have e1 : zA t' (s + 1) = Int32.ofInt (p : Int) := by
          unfold zA
          rw [if_neg (by omega), show s + 1 - 1 = s by omega, x3]
        have e2 : m0.1 169 p = Int32.ofInt ((zUp o (s + 1) d (s + 1) : Nat) : Int) := by
          rw [zUp_at, ← y2]; exact (h0.2.2.1 d y1).2
        rw [← e1, e2]
        exact zBr_loop hN hk hc hc2 hW h0 j (s + 1) M' rb' G' u' v' t' (zUp o (s + 1) d) sg' n (by omega) x1 H (by omega)
def zVac (M0 : dM) (N k : Nat) (W : Nat → Nat → Int) (g : Nat → Nat) (t o : Nat → Nat) (u v : Nat → Int) (j : Nat) (g' : Nat → Nat) (M : dM) : Prop :=
  (∀ a, a ≠ 169 → M.1 a = M0.1 a) ∧ M.2 = M0.2 ∧ (∀ d, d < k → g' d < N ∧ g' d ≠ t j ∧ M.1 169 (g' d) = Int32.ofInt (d : Int)) ∧ (∀ p, p < N → p ≠ t j → (M.1 169 p = -1 ∧ ∀ d, d < k → g' d ≠ p) ∨ ∃ d, d < k ∧ g' d = p) ∧ (∀ d, d < k → u d + v (g' d) = W d (g' d)) ∧ (∀ l, l < j → o (l + 1) < k ∧ g' (o (l + 1)) = t l) ∧ ∀ d, d < k → g d = t j ∨ ∃ d', d' < k ∧ g' d' = g d
theorem zSendOn {M0 : dM} {N k s : Nat} {W : Nat → Nat → Int} {g t o : Nat → Nat} {u v : Nat → Int} (hN : N ≤ 10) (hk : k < N) (hs : s < N) (h7 : M0.1 153 7 = Int32.ofInt (N : Int)) (t1 : ∀ j, j < s + 1 → t j < N) (t2 : ∀ i j, i < s + 1 → j < s + 1 → t i = t j → i = j) (t3 : o 0 = k) (a1 : ∀ j, j < s + 1 → ∃ l, l ≤ j ∧ M0.1 168 (t j) = zA t l ∧ u (o l) + v (t j) = W (o l) (t j)) : ∀ (b j : Nat) (g' : Nat → Nat) (M : dM) (i n : Nat), j < b → i + j ≤ s → j + 3 ≤ n → zVac M0 N k W g t o u v j g' M → ∃ (M' : dM) (g'' : Nat → Nat), dlp (fun q => dP3 q (fun v2 v3 m4 => fX4_sendOn_l5 153 (Int32.ofInt (k : Int)) v2 v3 m4)) n (Int32.ofInt (i : Int), Int32.ofInt ((t j : Nat) : Int), M) = some M' ∧ (∀ a, a ≠ 169 → M'.1 a = M0.1 a) ∧ M'.2 = M0.2 ∧ zHo N (k + 1) g'' M' ∧ (∀ d, d < k + 1 → u d + v (g'' d) = W d (g'' d)) ∧ ∀ d, d < k → ∃ d', d' < k + 1 ∧ g'' d' = g d
  | 0, j, g', M, i, n, hb, _, _, _ => by omega
  | b + 1, j, g', M, i, 0, _, _, hn, _ => by omega
  | b + 1, j, g', M, i, n + 1, hb, hi, hn, h => by
    obtain ⟨m1, m2, c1, c2, c3, c4, c5⟩ := h
    obtain ⟨l, l1, l2, l3⟩ := a1 j (by omega)
    have tj := t1 j (by omega)
    have h7M : M.1 153 7 = Int32.ofInt (N : Int) := by rw [m1 153 (by decide)]; exact h7
    have A : M.1 168 (t j) = zA t l := by rw [m1 168 (by decide)]; exact l2
    by_cases w : l = 0
    · subst w
      rw [t3] at l3
      match n, hn with
      | n + 1, hn =>
        refine ⟨d1 M 169 (t j) (Int32.ofInt (k : Int)), zUp g' k (t j), ?_, fun a ha => by rw [zd1_ne ha]; exact m1 a ha, m2, ⟨fun d hd => ?_, fun p hp => ?_⟩, fun d hd => ?_, fun d hd => ?_⟩
        · rw [dlp1 (s' := (Int32.ofInt ((i + 1 : Nat) : Int), -1, d1 M 169 (t j) (Int32.ofInt (k : Int))))]
          · refine dlp2 ?_
            show fX4_sendOn_l5 153 (Int32.ofInt (k : Int)) (Int32.ofInt ((i + 1 : Nat) : Int)) (-1) (d1 M 169 (t j) (Int32.ofInt (k : Int))) = _
            unfold fX4_sendOn_l5
            rw [zd1_ne (by decide), h7M, show (-1 : Int32) = Int32.ofInt (-1) from rfl, fX11_isInRow_ok _ (by omega) (by omega), Option.bind_some, if_neg (show ¬ ((0 : Int) ≤ -1 ∧ (-1 : Int) < 10) by omega)]
            by_cases z : Int32.ofInt (N : Int) ≤ Int32.ofInt ((i + 1 : Nat) : Int)
            · rw [if_pos z]
            · rw [if_neg z, if_pos rfl]
          · show fX4_sendOn_l5 153 (Int32.ofInt (k : Int)) (Int32.ofInt (i : Int)) (Int32.ofInt ((t j : Nat) : Int)) M = _
            unfold fX4_sendOn_l5
            rw [h7M, if_neg (by rw [zi_le (by omega) (by omega) (by omega) (by omega)]; omega), fX11_isInRow_nat M (by omega), Option.bind_some, if_neg z10, kd168, kd169, dg_ok (dIx_nat (by omega) (by decide)), zi_cn (by omega), A, show zA t 0 = Int32.ofInt (-1) from rfl, dlet_v, fX11_isInRow_ok _ (by omega) (by omega), Option.bind_some, if_neg (show ¬ ((0 : Int) ≤ -1 ∧ (-1 : Int) < 10) by omega), if_pos rfl, dg_ok (dIx_nat (by omega) (by decide)), dlet_v, dlet_v, zi_1]
            rfl
        · by_cases z : d = k
          · subst z; rw [zUp_at, zd1_at]; exact ⟨tj, rfl⟩
          · rw [zUp_ne z, zd1_nk (c1 d (by omega)).2.1]; exact ⟨(c1 d (by omega)).1, (c1 d (by omega)).2.2⟩
        · by_cases z : p = t j
          · exact Or.inr ⟨k, by omega, by rw [zUp_at, z]⟩
          · rcases c2 p hp z with ⟨x1, x2⟩ | ⟨d, x1, x2⟩
            · refine Or.inl ⟨by rw [zd1_nk z]; exact x1, fun d hd => ?_⟩
              by_cases y : d = k
              · rw [y, zUp_at]; exact fun q => z q.symm
              · rw [zUp_ne y]; exact x2 d (by omega)
            · exact Or.inr ⟨d, by omega, by rw [zUp_ne (by omega)]; exact x2⟩
        · by_cases z : d = k
          · rw [z, zUp_at]; exact l3
          · rw [zUp_ne z]; exact c3 d (by omega)
        · rcases c5 d hd with y | ⟨d', y1, y2⟩
          · exact ⟨k, by omega, by rw [zUp_at, y]⟩
          · exact ⟨d', by omega, by rw [zUp_ne (by omega)]; exact y2⟩
    · obtain ⟨q1, q2⟩ := c4 (l - 1) (by omega)
      rw [show l - 1 + 1 = l by omega] at q1 q2
      have tl := t1 (l - 1) (by omega)
      have dist : t (l - 1) ≠ t j := fun z => by have := t2 (l - 1) j (by omega) (by omega) z; omega
      have own : M.1 169 (t (l - 1)) = Int32.ofInt ((o l : Nat) : Int) := by rw [← q2]; exact (c1 (o l) q1).2.2
      have inj : ∀ d, d < k → g' d = t (l - 1) → d = o l := fun d hd z => by
        have a := (c1 d hd).2.2
        rw [z, own] at a
        have e : (Int32.ofInt ((o l : Nat) : Int) = Int32.ofInt (d : Int)) = (((o l : Nat) : Int) = d) := zi_eq (by omega) (by omega) (by omega) (by omega)
        rw [e] at a; omega
      have e : fX4_sendOn_l5 153 (Int32.ofInt (k : Int)) (Int32.ofInt (i : Int)) (Int32.ofInt ((t j : Nat) : Int)) M = some (.inl (Int32.ofInt ((i + 1 : Nat) : Int), Int32.ofInt ((t (l - 1) : Nat) : Int), d1 M 169 (t j) (Int32.ofInt ((o l : Nat) : Int)))) := by
        unfold fX4_sendOn_l5
        rw [h7M, if_neg (by rw [zi_le (by omega) (by omega) (by omega) (by omega)]; omega), fX11_isInRow_nat M (by omega), Option.bind_some, if_neg z10, kd168, kd169, dg_ok (dIx_nat (by omega) (by decide)), zi_cn (by omega), A, show zA t l = Int32.ofInt ((t (l - 1) : Nat) : Int) from if_neg w, dlet_v, fX11_isInRow_nat _ (by omega), Option.bind_some, if_neg z10, dg_ok (dIx_nat (by omega) (by decide)), dg_ok (dIx_nat (by omega) (by decide)), zi_cn (by omega), own, dlet_v, dlet_v, zi_1]
        rfl
      rw [dlp1 (s' := (Int32.ofInt ((i + 1 : Nat) : Int), Int32.ofInt ((t (l - 1) : Nat) : Int), d1 M 169 (t j) (Int32.ofInt ((o l : Nat) : Int)))) e]
      refine zSendOn hN hk hs h7 t1 t2 t3 a1 b (l - 1) (zUp g' (o l) (t j)) _ (i + 1) n (by omega) (by omega) (by omega) ⟨fun a ha => by rw [zd1_ne ha]; exact m1 a ha, m2, fun d hd => ?_, fun p hp hpl => ?_, fun d hd => ?_, fun l' hl' => ?_, fun d hd => ?_⟩
      · by_cases z : d = o l
        · subst z; rw [zUp_at, zd1_at]; exact ⟨tj, fun q => dist q.symm, rfl⟩
        · rw [zUp_ne z, zd1_nk (c1 d hd).2.1]
          exact ⟨(c1 d hd).1, fun q => z (inj d hd q), (c1 d hd).2.2⟩
      · by_cases z : p = t j
        · exact Or.inr ⟨o l, q1, by rw [zUp_at, z]⟩
        · rcases c2 p hp z with ⟨x1, x2⟩ | ⟨d, x1, x2⟩
          · refine Or.inl ⟨by rw [zd1_nk z]; exact x1, fun d hd => ?_⟩
            by_cases y : d = o l
            · rw [y, zUp_at]; exact fun q => z q.symm
            · rw [zUp_ne y]; exact x2 d hd
          · refine Or.inr ⟨d, x1, ?_⟩
            rw [zUp_ne (fun y => by rw [y, q2] at x2; exact hpl x2.symm)]; exact x2
      · by_cases z : d = o l
        · rw [z, zUp_at]; exact l3
        · rw [zUp_ne z]; exact c3 d hd
      · obtain ⟨y1, y2⟩ := c4 l' (by omega)
        refine ⟨y1, ?_⟩
        rw [zUp_ne (fun y => by rw [y, q2] at y2; have := t2 (l - 1) l' (by omega) (by omega) y2; omega)]; exact y2
      · rcases c5 d hd with y | ⟨d', y1, y2⟩
        · exact Or.inr ⟨o l, q1, by rw [zUp_at, y]⟩
        · by_cases z : d' = o l
          · exact Or.inl (by rw [← y2, z, q2])
          · exact Or.inr ⟨d', y1, by rw [zUp_ne z]; exact y2⟩
/-- once the dots below k have places -/
def zJ (m1 : dM) (N k : Nat) (W : Nat → Nat → Int) (g : Nat → Nat) (u v : Nat → Int) (M : dM) : Prop :=
  (∀ a, a ≠ 168 → a ≠ 169 → a ≠ 170 → M.1 a = m1.1 a) ∧ (∀ a, a ≠ 165 → a ≠ 166 → a ≠ 167 → M.2 a = m1.2 a) ∧ ((∀ d, d < N → M.2 165 d = Int64.ofInt (u d)) ∧ ∀ p, p < N → M.2 166 p = Int64.ofInt (v p)) ∧ zHo N k g M ∧ ((∀ d p, d < k → p < N → u d + v p ≤ W d p) ∧ ∀ d, d < k → u d + v (g d) = W d (g d)) ∧ (∀ d, d < N → 0 ≤ u d ∧ u d ≤ k * 60000000000000000) ∧ (∀ d, k ≤ d → d < N → u d = 0) ∧ (∀ p, p < N → -((k : Int) * 60000000000000000) ≤ v p ∧ v p ≤ 0) ∧ ∀ p, p < N → (∀ d, d < k → g d ≠ p) → v p = 0
theorem fX4_bringIn_ok {m1 M : dM} {N k : Nat} {W : Nat → Nat → Int} {g : Nat → Nat} {u v : Nat → Int} (hN : N ≤ 10) (hk : k < N) (h7 : m1.1 153 7 = Int32.ofInt (N : Int)) (hWm : ∀ d p, d < N → p < N → m1.2 (154 + 1 + d) p = Int64.ofInt (W d p)) (hW : ∀ d p, d < N → p < N → 0 ≤ W d p ∧ W d p ≤ 60000000000000000) (h : zJ m1 N k W g u v M) : ∃ (M' : dM) (g' : Nat → Nat) (u' v' : Nat → Int), fX4_bringIn M 153 (Int32.ofInt (k : Int)) = some M' ∧ zJ m1 N (k + 1) W g' u' v' M' := by
  obtain ⟨i1, i2, ⟨i3, i4⟩, i5, ⟨i6, i7⟩, i8, i9, i10, i11⟩ := h
  have h7M : M.1 153 7 = Int32.ofInt (N : Int) := by rw [i1 153 (by decide) (by decide) (by decide)]; exact h7
  unfold fX4_bringIn
  rw [dg_ok kPair]
  obtain ⟨R, e, w1, w2, w3, w4⟩ := dlp_inv (f := fun q => dP2 q (fun v2 m3 => fX4_bringIn_l2 153 v2 m3)) (Q := fun (r : dM) => (∀ a, a ≠ 168 → a ≠ 170 → r.1 a = M.1 a) ∧ (∀ a, a ≠ 167 → r.2 a = M.2 a) ∧ (∀ p, p < N → r.1 170 p = 0) ∧ ∀ p, p < N → r.2 167 p = Int64.ofInt 9223372036854775807) (fun j s => s.1 = Int32.ofInt (j : Int) ∧ (∀ a, a ≠ 168 → a ≠ 170 → s.2.1 a = M.1 a) ∧ (∀ a, a ≠ 167 → s.2.2 a = M.2 a) ∧ (∀ p, p < j → s.2.1 170 p = 0) ∧ ∀ p, p < j → s.2.2 167 p = Int64.ofInt 9223372036854775807) N
    (fun j s hj hs => by
      obtain ⟨x, Q⟩ := s
      obtain ⟨j1, j2, j3, j4, j5⟩ := hs
      have j1 : x = Int32.ofInt (j : Int) := j1
      have j2 : ∀ a, a ≠ 168 → a ≠ 170 → Q.1 a = M.1 a := j2
      subst j1
      refine Or.inl ⟨(Int32.ofInt ((j + 1 : Nat) : Int), d1 (d1 (d2 Q 167 j 9223372036854775807) 168 j (-1)) 170 j 0), ?_, rfl, fun a a1 a2 => by show (d1 (d1 _ _ _ _) _ _ _).1 a = _; rw [zd1_ne a2, zd1_ne a1, zd2_1]; exact j2 a a1 a2, fun a ha => by show (d2 Q _ _ _).2 a = _; rw [zd2_ne ha]; exact j3 a ha, fun p hp => ?_, fun p hp => ?_⟩
      · show fX4_bringIn_l2 153 (Int32.ofInt (j : Int)) Q = _
        unfold fX4_bringIn_l2
        rw [j2 153 (by decide) (by decide), h7M, if_neg (by rw [zi_le (by omega) (by omega) (by omega) (by omega)]; omega), kd167, kd168, kd170, dg_ok (dIx_nat (by omega) (by decide)), zi_cn (by omega), dlet_v, dg_ok (dIx_nat (by omega) (by decide)), dlet_v, dg_ok (dIx_nat (by omega) (by decide)), dlet_v, dlet_v, zi_1]; rfl
      · show (d1 (d1 (d2 Q _ _ _) 168 j _) 170 j _).1 170 p = _
        by_cases z : p = j
        · subst z; exact zd1_at
        · rw [zd1_nk z, zd1_ne (by decide), zd2_1]; exact j4 p (by omega)
      · show (d2 Q 167 j _).2 167 p = _
        by_cases z : p = j
        · subst z; rw [zd2_at]; rfl
        · rw [zd2_nk z]; exact j5 p (by omega))
    (fun s hs => by
      obtain ⟨x, Q⟩ := s
      obtain ⟨j1, j2, j3⟩ := hs
      have j1 : x = Int32.ofInt (N : Int) := j1
      have j2 : ∀ a, a ≠ 168 → a ≠ 170 → Q.1 a = M.1 a := j2
      subst j1
      refine ⟨Q, ?_, j2, j3⟩
      show fX4_bringIn_l2 153 (Int32.ofInt (N : Int)) Q = _
      unfold fX4_bringIn_l2
      rw [j2 153 (by decide) (by decide), h7M, if_pos (Int32.le_refl _)]) N 0 dFl (0, M) (by omega) (by show N < 100000; omega) ⟨rfl, fun a _ _ => rfl, fun a _ => rfl, fun p hp => by omega, fun p hp => by omega⟩
  rw [e, Option.bind_some]
  have hHR : zHo N k g R := by unfold zHo at *; rw [w1 169 (by decide) (by decide)]; exact i5
  have h0 : zB0 N k W g R := ⟨by rw [w1 153 (by decide) (by decide)]; exact h7M, fun d p hd hp => by rw [w2 _ (by omega), i2 _ (by omega) (by omega) (by omega)]; exact hWm d p hd hp, hHR⟩
  have hBm : zBm R N (fun _ => false) (fun _ => 9223372036854775807) u v R := ⟨fun a _ _ => rfl, fun a _ _ _ => rfl, fun d hd => by rw [w2 165 (by decide)]; exact i3 d hd, fun p hp => by rw [w2 166 (by decide)]; exact i4 p hp, fun p hp => w3 p hp, fun p hp _ => w4 p hp⟩
  have hTh : zTh N k W g 0 (fun _ => 0) (fun _ => k) (fun _ => false) (R.1 168) (fun _ => 9223372036854775807) u v ((k : Int) * 60000000000000000) 0 := by
    refine ⟨⟨⟨fun j hj => by omega, fun i j hi => by omega, rfl, fun j hj => by omega⟩, fun j hj => by omega, ⟨i6, i7, fun z => by omega⟩, fun d hd => by rw [Int.add_zero]; exact i8 d hd, i9 k (Nat.le_refl k) hk, fun d d1 d2 => i9 d (by omega) d2, fun p hp => by rw [Int.add_zero]; exact i10 p hp, i11, by omega, by omega, fun _ => rfl⟩, fun j hj => by omega, fun p hp => ⟨fun z => absurd (show false = true from z) (by decide), fun ⟨j, hj, _⟩ => by omega⟩, fun p hp _ => Or.inl ⟨rfl, rfl⟩⟩
  have hc : (0 : Int) ≤ (k : Int) * 60000000000000000 := Int.mul_nonneg (by omega) (by decide)
  have hc2 : (k : Int) * 60000000000000000 ≤ 600000000000000000 := by omega
  obtain ⟨M', rb', G', u', v', t', o', sg', s', p, x0, ⟨x1, x2, x3, x4, x5, x6⟩, x7, x8, x9, x10, ⟨⟨t1, t2, t3, t4⟩, a1, ⟨f1, f2, f3⟩, b1, b2, b3, b4, b5, b6, b7, b8⟩⟩ := zBr_loop hN hk hc hc2 hW h0 k 0 R (fun _ => false) (fun _ => 9223372036854775807) u v (fun _ => 0) (fun _ => k) 0 dFl (by omega) hBm hTh (by show k + 3 ≤ 100000; omega)
  have x0 : dlp (fun q => dP4 q (fun v14 v15 v16 m17 => fX4_bringIn_l46 153 (Int32.ofInt (k : Int)) v14 v15 v16 m17)) dFl (0, -1, Int32.ofInt (k : Int), R) = some (.inr (Int32.ofInt (p : Int), M')) := x0
  show ∃ M' g' u' v', ((dlp (fun q => dP4 q (fun v14 v15 v16 m17 => fX4_bringIn_l46 153 (Int32.ofInt (k : Int)) v14 v15 v16 m17)) dFl (0, -1, Int32.ofInt (k : Int), R)).bind _) = _ ∧ _
  rw [x0, Option.bind_some]
  have hs' : s' < N := by omega
  obtain ⟨M'', g'', y1, y2, y3, y4, y5, y6⟩ := zSendOn (M0 := M') (N := N) (k := k) (s := s') (W := W) (g := g) (t := t') (o := o') (u := u') (v := v') hN hk hs' (by rw [x1 153 (by decide) (by decide)]; exact h0.1) t1 t2 t3 a1 (s' + 1) s' g M' 0 dFl (by omega) (by omega) (by show s' + 3 ≤ 100000; omega) ⟨fun a _ => rfl, rfl, fun d hd => by
    rw [x9, x1 169 (by decide) (by decide)]; exact ⟨(hHR.1 d hd).1, x10 d hd, (hHR.1 d hd).2⟩, fun q hq hqp => by rw [x1 169 (by decide) (by decide)]; exact hHR.2 q hq, f2, fun l hl => t4 l (by omega), fun d hd => Or.inr ⟨d, hd, rfl⟩⟩
  refine ⟨M'', g'', u', v', ?_, fun a a1 a2 a3 => by rw [y2 a a2, x1 a a1 a3, w1 a a1 a3]; exact i1 a a1 a2 a3, fun a a1 a2 a3 => by rw [y3, x2 a a1 a2 a3, w2 a a3]; exact i2 a a1 a2 a3, ⟨fun d hd => by rw [y3]; exact x3 d hd, fun q hq => by rw [y3]; exact x4 q hq⟩, y4, ⟨fun d q hd hq => ?_, y5⟩, fun d hd => ?_, fun d d1 d2 => b3 d (by omega) d2, fun q hq => ?_, fun q hq hf => ?_⟩
  · show (fX4_sendOn M' 153 (Int32.ofInt (k : Int)) (Int32.ofInt (p : Int))).bind _ = _
    unfold fX4_sendOn
    rw [dg_ok kPair, ← x9]
    rw [show ((0 : Int32), Int32.ofInt ((t' s' : Nat) : Int), M') = (Int32.ofInt ((0 : Nat) : Int), Int32.ofInt ((t' s' : Nat) : Int), M') from rfl, y1]; rfl
  · by_cases z : d = k
    · rw [z]; exact f3 (by omega) q hq
    · exact f1 d q (by omega) hq
  · have := b1 d hd; omega
  · have := b4 q hq; omega
  · refine b5 q hq (fun d hd e => ?_)
    obtain ⟨d', z1, z2⟩ := y6 d hd
    exact hf d' z1 (by rw [z2, e])
