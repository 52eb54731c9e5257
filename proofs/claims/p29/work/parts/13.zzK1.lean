/-! the class's cells, all of them, by whole numbers -/
def zK (N S P pp : Nat) (le kn : Nat → Int) (il io : Nat → Bool) (sx sy : Nat → Nat → Int) (so : Nat → Nat) (co te : Nat → Int) (lt : Nat → Bool) (go : Nat → Nat → Nat) (px py : Nat → Nat → Int) (lo hi : Int) (cap : Nat → Nat → Int) (pen : Nat → Int) (m : dM) : Prop := zDr N le kn ∧ zDc N le kn il io m ∧ zSr N S sx sy ∧ zSc N S sx sy m ∧ zPr N S P sx sy so co te lt go ∧ zPc N P sx sy so co te lt go m ∧ zGr N S pp px py ∧ zGc N pp px py m ∧ zCr lo hi cap pen ∧ zCc lo hi cap pen m
theorem zK.to {N S P pp : Nat} {le kn : Nat → Int} {il io : Nat → Bool} {sx sy : Nat → Nat → Int} {so : Nat → Nat} {co te : Nat → Int} {lt : Nat → Bool} {go : Nat → Nat → Nat} {px py : Nat → Nat → Int} {lo hi : Int} {cap : Nat → Nat → Int} {pen : Nat → Int} {m : dM} {m' : dM} (h : zK N S P pp le kn il io sx sy so co te lt go px py lo hi cap pen m) (h1 : ∀ a, (1 ≤ a ∧ a < 44) ∨ (47 ≤ a ∧ a < 145) ∨ (394 ≤ a ∧ a < 432) ∨ (435 ≤ a ∧ a < 444) → m'.1 a = m.1 a) : zK N S P pp le kn il io sx sy so co te lt go px py lo hi cap pen m' := by
  obtain ⟨h0, k1, h2, h3, h5, h6, h8, h9, h11, h12⟩ := h
  exact ⟨h0, k1.to (fun a q1 q2 => h1 a (by omega)), h2, h3.to h2.1 (fun a q1 q2 => h1 a (by omega)), h5, h6.to h5.1 (fun a q1 q2 => h1 a (by omega)), h8, h9.to h8.1 (fun a q1 q2 => h1 a (by omega)), h11, h12.to (fun a q1 q2 => h1 a (by omega))⟩
theorem zK.P0 {N S P pp : Nat} {le kn : Nat → Int} {il io : Nat → Bool} {sx sy : Nat → Nat → Int} {so : Nat → Nat} {co te : Nat → Int} {lt : Nat → Bool} {go : Nat → Nat → Nat} {px py : Nat → Nat → Int} {lo hi : Int} {cap : Nat → Nat → Int} {pen : Nat → Int} {m : dM} (h : zK N S P pp le kn il io sx sy so co te lt go px py lo hi cap pen m) (hS : S = 0) : P = 0 ∧ pp = 0 := by
  obtain ⟨h0, h1, h2, h3, h5, h6, h8, h9, h11, h12⟩ := h
  constructor
  · rcases Nat.eq_zero_or_pos P with q | q
    · exact q
    · exact absurd (h5.2 0 q).1 (by omega)
  · rcases Nat.eq_zero_or_pos pp with q | q
    · exact q
    · exact absurd (h8.2.1 q) (by omega)
theorem K_band {N S P pp : Nat} {le kn : Nat → Int} {il io : Nat → Bool} {sx sy : Nat → Nat → Int} {so : Nat → Nat} {co te : Nat → Int} {lt : Nat → Bool} {go : Nat → Nat → Nat} {px py : Nat → Nat → Int} {lo hi : Int} {cap : Nat → Nat → Int} {pen : Nat → Int} {m : dM} (K : zK N S P pp le kn il io sx sy so co te lt go px py lo hi cap pen m) (hS : S = 0) {a : Int} (a1 : 2 ≤ a) (a2 : a ≤ 10) : ∃ m', fX11_band m 0 (Int32.ofInt a) = some (.inr m') ∧ zK a.toNat 0 0 0 (fun _ => 14) (fun _ => -1) (fun _ => false) (fun _ => false) sx sy so co te lt go px py lo hi cap pen m' := by
  obtain ⟨hP, hpp⟩ := K.P0 hS
  subst hS
  obtain ⟨h0, h1, h2, h3, h5, h6, h8, h9, h11, h12⟩ := K
  subst hP
  subst hpp
  obtain ⟨M, rfl⟩ := zi_nat (show 0 ≤ a by omega)
  have fr : ∀ x, 6 ≤ x → (dBegin m (Int32.ofInt M)).1 x = m.1 x := by
    intro x q1
    unfold dBegin
    rw [zFl (by omega) (by omega), zFl (by omega) (by omega), zd1_ne (by omega)]
  refine ⟨dBegin m (Int32.ofInt M), ?_, ?_⟩
  · rw [fX11_band_ok h2.1 h3 (by omega) (by omega), if_pos ⟨a1, a2⟩, if_pos rfl]
  · rw [Int.toNat_natCast]
    exact ⟨⟨by omega, by omega, fun _ _ => ⟨show (5 : Int) ≤ 14 by decide, show (14 : Int) ≤ 40 by decide⟩, fun _ _ => ⟨show (-1 : Int) ≤ -1 by decide, show (-1 : Int) < 10 by decide⟩⟩, ⟨by simp [dBegin, dFill, d1], fun d hd => by simp [dBegin, dFill, d1, hd]; rfl, fun d hd => by simp [dBegin, dFill, d1, hd]; rfl⟩, ⟨by omega, fun s hs => absurd hs (by omega)⟩, ⟨by rw [fr 6 (by omega)]; exact h3.1, fun s hs => absurd hs (by omega)⟩, ⟨by omega, fun s hs => absurd hs (by omega)⟩, ⟨by rw [fr 47 (by omega)]; exact h6.1, fun s hs => absurd hs (by omega)⟩, ⟨by omega, fun q => absurd q (by omega), fun s hs => absurd hs (by omega)⟩, ⟨by rw [fr 394 (by omega)]; exact h9.1, fun s hs => absurd hs (by omega)⟩, h11, h12.to (fun a q1 q2 => fr a (by omega))⟩
theorem K_legs {N S P pp : Nat} {le kn : Nat → Int} {il io : Nat → Bool} {sx sy : Nat → Nat → Int} {so : Nat → Nat} {co te : Nat → Int} {lt : Nat → Bool} {go : Nat → Nat → Nat} {px py : Nat → Nat → Int} {lo hi : Int} {cap : Nat → Nat → Int} {pen : Nat → Int} {m : dM} (K : zK N S P pp le kn il io sx sy so co te lt go px py lo hi cap pen m) {a b : Int} (ha : 0 ≤ a ∧ a < N) (hb : 5 ≤ b ∧ b ≤ 40) : ∃ m', fX11_legs m 0 (Int32.ofInt a) (Int32.ofInt b) = some (.inr (Int32.ofInt (le a.toNat), m')) ∧ zK N S P pp (zUp le a.toNat b) kn il io sx sy so co te lt go px py lo hi cap pen m' := by
  obtain ⟨h0, h1, h2, h3, h5, h6, h8, h9, h11, h12⟩ := K
  have hN := h0.2.1
  obtain ⟨d, rfl⟩ := zi_nat ha.1
  rw [Int.toNat_natCast]
  refine ⟨d1 m 2 d (Int32.ofInt b), by rw [fX11_legs_ok h0 h1 (by omega) (by omega) (by omega) (by omega), if_pos ha, if_pos hb, Int.toNat_natCast], ⟨h0.1, h0.2.1, fun e he => ?_, h0.2.2.2⟩, ⟨by simp (disch := omega) only [zd1_ne, zd1_nk, zd2_1]; exact h1.1, fun e he => ?_, fun a ha => by simp (disch := omega) only [zd1_ne, zd1_nk, zd2_1]; exact h1.2.2 a ha⟩, h2, h3.to h2.1 (fun a q1 q2 => by simp (disch := omega) only [zd1_ne, zd1_nk, zd2_1]), h5, h6.to h5.1 (fun a q1 q2 => by simp (disch := omega) only [zd1_ne, zd1_nk, zd2_1]), h8, h9.to h8.1 (fun a q1 q2 => by simp (disch := omega) only [zd1_ne, zd1_nk, zd2_1]), h11, h12.to (fun a q1 q2 => by simp (disch := omega) only [zd1_ne, zd1_nk, zd2_1])⟩
  · unfold zUp; split
    · omega
    · exact h0.2.2.1 e he
  · by_cases q : e = d
    · subst q; rw [zUp_at]; simp [d1]; exact (h1.2.1 e he).2
    · rw [zUp_ne q]; simp [d1, q]; exact h1.2.1 e he
theorem K_ill {N S P pp : Nat} {le kn : Nat → Int} {il io : Nat → Bool} {sx sy : Nat → Nat → Int} {so : Nat → Nat} {co te : Nat → Int} {lt : Nat → Bool} {go : Nat → Nat → Nat} {px py : Nat → Nat → Int} {lo hi : Int} {cap : Nat → Nat → Int} {pen : Nat → Int} {m : dM} (K : zK N S P pp le kn il io sx sy so co te lt go px py lo hi cap pen m) (b : Bool) {a : Int} (ha : 0 ≤ a ∧ a < N) : ∃ m', fX11_ill m 0 (Int32.ofInt a) (zB b) = some (.inr (zB (zMar kn (zUp il a.toNat b) io a.toNat), m')) ∧ zK N S P pp le kn (zUp il a.toNat b) io sx sy so co te lt go px py lo hi cap pen m' := by
  obtain ⟨h0, h1, h2, h3, h5, h6, h8, h9, h11, h12⟩ := K
  have hN := h0.2.1
  obtain ⟨d, rfl⟩ := zi_nat ha.1
  rw [Int.toNat_natCast]
  exact ⟨d1 m 3 d (zB b), by rw [fX11_ill_ok h0 h1 b (by omega) (by omega), if_pos ha, Int.toNat_natCast], h0, h1.ill d b, h2, h3.to h2.1 (fun a q1 q2 => by simp (disch := omega) only [zd1_ne, zd1_nk, zd2_1]), h5, h6.to h5.1 (fun a q1 q2 => by simp (disch := omega) only [zd1_ne, zd1_nk, zd2_1]), h8, h9.to h8.1 (fun a q1 q2 => by simp (disch := omega) only [zd1_ne, zd1_nk, zd2_1]), h11, h12.to (fun a q1 q2 => by simp (disch := omega) only [zd1_ne, zd1_nk, zd2_1])⟩
theorem K_alternate {N S P pp : Nat} {le kn : Nat → Int} {il io : Nat → Bool} {sx sy : Nat → Nat → Int} {so : Nat → Nat} {co te : Nat → Int} {lt : Nat → Bool} {go : Nat → Nat → Nat} {px py : Nat → Nat → Int} {lo hi : Int} {cap : Nat → Nat → Int} {pen : Nat → Int} {m : dM} (K : zK N S P pp le kn il io sx sy so co te lt go px py lo hi cap pen m) (b : Bool) {a z : Int} (ha : 0 ≤ a ∧ a < 3) (hz : -1 ≤ z ∧ z < N) : ∃ m', fX11_alternate m 0 (Int32.ofInt a) (Int32.ofInt z) (zB b) = some (.inr m') ∧ zK N S P pp le (zUp kn a.toNat z) il (zUp io a.toNat b) sx sy so co te lt go px py lo hi cap pen m' := by
  obtain ⟨h0, h1, h2, h3, h5, h6, h8, h9, h11, h12⟩ := K
  have hN := h0.2.1
  obtain ⟨d, rfl⟩ := zi_nat ha.1
  rw [Int.toNat_natCast]
  refine ⟨d1 (d1 m 4 d (Int32.ofInt z)) 5 d (zB b), by rw [fX11_alternate_ok h0 h1 b (by omega) (by omega) (by omega) (by omega), if_pos ⟨ha, hz⟩, Int.toNat_natCast], ⟨h0.1, h0.2.1, h0.2.2.1, fun e he => ?_⟩, h1.know d z b, h2, h3.to h2.1 (fun a q1 q2 => by simp (disch := omega) only [zd1_ne, zd1_nk, zd2_1]), h5, h6.to h5.1 (fun a q1 q2 => by simp (disch := omega) only [zd1_ne, zd1_nk, zd2_1]), h8, h9.to h8.1 (fun a q1 q2 => by simp (disch := omega) only [zd1_ne, zd1_nk, zd2_1]), h11, h12.to (fun a q1 q2 => by simp (disch := omega) only [zd1_ne, zd1_nk, zd2_1])⟩
  unfold zUp; split
  · omega
  · exact h0.2.2.2 e he
/-- a set is kept -/
def zAdd (S : Nat) (f : Nat → Int) (sx : Nat → Nat → Int) : Nat → Nat → Int := fun s p => if s = S then f p else sx s p
theorem K_keep {N S P pp : Nat} {le kn : Nat → Int} {il io : Nat → Bool} {sx sy : Nat → Nat → Int} {so : Nat → Nat} {co te : Nat → Int} {lt : Nat → Bool} {go : Nat → Nat → Nat} {px py : Nat → Nat → Int} {lo hi : Int} {cap : Nat → Nat → Int} {pen : Nat → Int} {m : dM} {f g : Nat → Int} (K : zK N S P pp le kn il io sx sy so co te lt go px py lo hi cap pen m) (hS : S < 12) (hf : zAll f g N = true) : zK N (S + 1) P pp le kn il io (zAdd S f sx) (zAdd S g sy) so co te lt go px py lo hi cap pen (zKeep m S N f g) := by
  obtain ⟨a0, a1, a2, a3, a5, a6, a8, a9, a11, a12⟩ := K
  have hN := a0.2.1
  have hx : ∀ s, s < S → zAdd S f sx s = sx s := fun s hs => by funext p; exact if_neg (by omega)
  have hy : ∀ s, s < S → zAdd S g sy s = sy s := fun s hs => by funext p; exact if_neg (by omega)
  have fr : ∀ a, a ≠ 45 → a ≠ 46 → a ≠ 6 → a ≠ 8 + 3 * S + 1 → a ≠ 8 + 3 * S + 2 → (zKeep m S N f g).1 a = m.1 a := fun a q1 q2 q3 q4 q5 => zKeep_ne q1 q2 q3 q4 q5
  refine ⟨a0, a1.to (fun a q1 q2 => fr a (by omega) (by omega) (by omega) (by omega) (by omega)), ⟨by omega, fun s hs p hp => ?_⟩, ⟨?_, fun s hs p hp => ?_⟩, a5.new (by omega) hx hy, ((a6.new a5 hx hy).to a5.1 (fun a q1 q2 => fr a (by omega) (by omega) (by omega) (by omega) (by omega))), ⟨a8.1, fun _ => by omega, a8.2.2⟩, a9.to a8.1 (fun a q1 q2 => fr a (by omega) (by omega) (by omega) (by omega) (by omega)), a11, a12.to (fun a q1 q2 => fr a (by omega) (by omega) (by omega) (by omega) (by omega))⟩
  · show 0 ≤ (if s = S then f p else sx s p) ∧ (if s = S then f p else sx s p) ≤ 1600 ∧ 0 ≤ (if s = S then g p else sy s p) ∧ (if s = S then g p else sy s p) ≤ 840
    by_cases c : s = S
    · rw [if_pos c, if_pos c]; exact zFd_in (zAll_all hf p hp)
    · rw [if_neg c, if_neg c]; exact a2.2 s (by omega) p hp
  · unfold zKeep
    rw [zd1_at]; rfl
  · show _ = Int32.ofInt (if s = S then f p else sx s p) ∧ _ = Int32.ofInt (if s = S then g p else sy s p)
    unfold zKeep
    rw [zd1_ne (by omega), zd1_ne (by omega)]
    by_cases c : s = S
    · subst c
      have e1 := zW2_a (m := m) (a := 45) (b := 46) (o := 0) (f := f) (g := g) hp
      have e2 := zW2_b (m := m) (a := 45) (b := 46) (o := 0) (f := f) (g := g) (by decide) hp
      rw [Nat.zero_add] at e1 e2
      rw [if_pos rfl, if_pos rfl, zCp_1 (by omega), zCp_2 (by omega)]
      exact ⟨e1, e2⟩
    · rw [if_neg c, if_neg c, zCp_ne (by omega) (by omega), zCp_ne (by omega) (by omega), zW2_ne (by omega) (by omega), zW2_ne (by omega) (by omega)]
      exact a3.2 s (by omega) p hp
theorem K_draft {N S P pp : Nat} {le kn : Nat → Int} {il io : Nat → Bool} {sx sy : Nat → Nat → Int} {so : Nat → Nat} {co te : Nat → Int} {lt : Nat → Bool} {go : Nat → Nat → Nat} {px py : Nat → Nat → Int} {lo hi : Int} {cap : Nat → Nat → Int} {pen : Nat → Int} {m : dM} {f g : Nat → Int} (K : zK N S P pp le kn il io sx sy so co te lt go px py lo hi cap pen m) : zK N S P pp le kn il io sx sy so co te lt go px py lo hi cap pen (zW2 m 45 46 0 f g N) := K.to (fun a h => zW2_ne (by omega) (by omega))
theorem K_line {N S P pp : Nat} {le kn : Nat → Int} {il io : Nat → Bool} {sx sy : Nat → Nat → Int} {so : Nat → Nat} {co te : Nat → Int} {lt : Nat → Bool} {go : Nat → Nat → Nat} {px py : Nat → Nat → Int} {lo hi : Int} {cap : Nat → Nat → Int} {pen : Nat → Int} {m : dM} (K : zK N S P pp le kn il io sx sy so co te lt go px py lo hi cap pen m) {a b c d : Int} (hr : (-2147483648 ≤ a ∧ a < 2147483648) ∧ (-2147483648 ≤ b ∧ b < 2147483648) ∧ (-2147483648 ≤ c ∧ c < 2147483648) ∧ -2147483648 ≤ d ∧ d < 2147483648) (h0 : zFd a b = true ∧ zFd c d = true) (hf : zAll (zLn a c N) (zLn b d N) N = true) (hS : S < 12) : ∃ m', fX11_line m 0 (Int32.ofInt a) (Int32.ofInt b) (Int32.ofInt c) (Int32.ofInt d) = some (.inr (Int32.ofInt S, m')) ∧ zK N (S + 1) P pp le kn il io (zAdd S (zLn a c N) sx) (zAdd S (zLn b d N) sy) so co te lt go px py lo hi cap pen m' :=
  ⟨_, by rw [fX11_line_ok K.1 K.2.1 K.2.2.1 K.2.2.2.1 (by omega) (by omega) (by omega) (by omega) (by omega) (by omega) (by omega) (by omega), if_pos h0, if_pos hf, if_pos hS], K_keep K hS hf⟩
theorem K_block {N S P pp : Nat} {le kn : Nat → Int} {il io : Nat → Bool} {sx sy : Nat → Nat → Int} {so : Nat → Nat} {co te : Nat → Int} {lt : Nat → Bool} {go : Nat → Nat → Nat} {px py : Nat → Nat → Int} {lo hi : Int} {cap : Nat → Nat → Int} {pen : Nat → Int} {m : dM} (K : zK N S P pp le kn il io sx sy so co te lt go px py lo hi cap pen m) {a b c d : Int} (hr : (-2147483648 ≤ a ∧ a < 2147483648) ∧ (-2147483648 ≤ b ∧ b < 2147483648) ∧ (-2147483648 ≤ c ∧ c < 2147483648) ∧ -2147483648 ≤ d ∧ d < 2147483648) (h0 : (1 ≤ c ∧ c ≤ 10) ∧ 1 ≤ d ∧ d ≤ 400) (hf : zAll (zKx a c d) (zKy b c d) N = true) (hS : S < 12) : ∃ m', fX11_block m 0 (Int32.ofInt a) (Int32.ofInt b) (Int32.ofInt c) (Int32.ofInt d) = some (.inr (Int32.ofInt S, m')) ∧ zK N (S + 1) P pp le kn il io (zAdd S (zKx a c d) sx) (zAdd S (zKy b c d) sy) so co te lt go px py lo hi cap pen m' :=
  ⟨_, by rw [fX11_block_ok K.1 K.2.1 K.2.2.1 K.2.2.2.1 (by omega) (by omega) (by omega) (by omega) (by omega) (by omega) (by omega) (by omega), if_pos h0, if_pos hf, if_pos hS], K_keep K hS hf⟩
theorem K_wedge {N S P pp : Nat} {le kn : Nat → Int} {il io : Nat → Bool} {sx sy : Nat → Nat → Int} {so : Nat → Nat} {co te : Nat → Int} {lt : Nat → Bool} {go : Nat → Nat → Nat} {px py : Nat → Nat → Int} {lo hi : Int} {cap : Nat → Nat → Int} {pen : Nat → Int} {m : dM} (K : zK N S P pp le kn il io sx sy so co te lt go px py lo hi cap pen m) {a b c : Int} (hr : (-2147483648 ≤ a ∧ a < 2147483648) ∧ (-2147483648 ≤ b ∧ b < 2147483648) ∧ -2147483648 ≤ c ∧ c < 2147483648) (h0 : 1 ≤ c ∧ c ≤ 400) (hf : zAll (zVx a c) (zVy b c) N = true) (hS : S < 12) : ∃ m', fX11_wedge m 0 (Int32.ofInt a) (Int32.ofInt b) (Int32.ofInt c) = some (.inr (Int32.ofInt S, m')) ∧ zK N (S + 1) P pp le kn il io (zAdd S (zVx a c) sx) (zAdd S (zVy b c) sy) so co te lt go px py lo hi cap pen m' :=
  ⟨_, by rw [fX11_wedge_ok K.1 K.2.1 K.2.2.1 K.2.2.2.1 (by omega) (by omega) (by omega) (by omega) (by omega) (by omega), if_pos h0, if_pos hf, if_pos hS], K_keep K hS hf⟩
/-- a set is refused, or kept -/
theorem K_lineX {N S P pp : Nat} {le kn : Nat → Int} {il io : Nat → Bool} {sx sy : Nat → Nat → Int} {so : Nat → Nat} {co te : Nat → Int} {lt : Nat → Bool} {go : Nat → Nat → Nat} {px py : Nat → Nat → Int} {lo hi : Int} {cap : Nat → Nat → Int} {pen : Nat → Int} {m : dM} (K : zK N S P pp le kn il io sx sy so co te lt go px py lo hi cap pen m) {a b c d : Int} (hr : (-2147483648 ≤ a ∧ a < 2147483648) ∧ (-2147483648 ≤ b ∧ b < 2147483648) ∧ (-2147483648 ≤ c ∧ c < 2147483648) ∧ -2147483648 ≤ d ∧ d < 2147483648) : (∃ m', fX11_line m 0 (Int32.ofInt a) (Int32.ofInt b) (Int32.ofInt c) (Int32.ofInt d) = some (.inl (1, m')) ∧ ¬ ((zFd a b = true ∧ zFd c d = true) ∧ zAll (zLn a c N) (zLn b d N) N = true) ∧ zK N S P pp le kn il io sx sy so co te lt go px py lo hi cap pen m') ∨ (S = 12 ∧ ∃ m', fX11_line m 0 (Int32.ofInt a) (Int32.ofInt b) (Int32.ofInt c) (Int32.ofInt d) = some (.inl (2, m')) ∧ zK N S P pp le kn il io sx sy so co te lt go px py lo hi cap pen m') ∨ ∃ m' f g, fX11_line m 0 (Int32.ofInt a) (Int32.ofInt b) (Int32.ofInt c) (Int32.ofInt d) = some (.inr (Int32.ofInt S, m')) ∧ S < 12 ∧ zK N (S + 1) P pp le kn il io (zAdd S f sx) (zAdd S g sy) so co te lt go px py lo hi cap pen m' := by
  have X := fX11_line_ok K.1 K.2.1 K.2.2.1 K.2.2.2.1 (a := a) (b := b) (c := c) (d := d) (by omega) (by omega) (by omega) (by omega) (by omega) (by omega) (by omega) (by omega)
  have hS := K.2.2.1.1
  by_cases c0 : zFd a b = true ∧ zFd c d = true
  · rw [if_pos c0] at X
    by_cases c1 : zAll (zLn a c N) (zLn b d N) N = true
    · rw [if_pos c1] at X
      by_cases c2 : S < 12
      · rw [if_pos c2] at X; exact Or.inr (Or.inr ⟨_, _, _, X, c2, K_keep K c2 c1⟩)
      · rw [if_neg c2] at X; exact Or.inr (Or.inl ⟨by omega, _, X, K_draft K⟩)
    · rw [if_neg c1] at X; exact Or.inl ⟨_, X, fun q => c1 q.2, K_draft K⟩
  · rw [if_neg c0] at X; exact Or.inl ⟨_, X, fun q => c0 q.1, K⟩
theorem K_blockX {N S P pp : Nat} {le kn : Nat → Int} {il io : Nat → Bool} {sx sy : Nat → Nat → Int} {so : Nat → Nat} {co te : Nat → Int} {lt : Nat → Bool} {go : Nat → Nat → Nat} {px py : Nat → Nat → Int} {lo hi : Int} {cap : Nat → Nat → Int} {pen : Nat → Int} {m : dM} (K : zK N S P pp le kn il io sx sy so co te lt go px py lo hi cap pen m) {a b c d : Int} (hr : (-2147483648 ≤ a ∧ a < 2147483648) ∧ (-2147483648 ≤ b ∧ b < 2147483648) ∧ (-2147483648 ≤ c ∧ c < 2147483648) ∧ -2147483648 ≤ d ∧ d < 2147483648) : (∃ m', fX11_block m 0 (Int32.ofInt a) (Int32.ofInt b) (Int32.ofInt c) (Int32.ofInt d) = some (.inl (1, m')) ∧ ¬ (((1 ≤ c ∧ c ≤ 10) ∧ 1 ≤ d ∧ d ≤ 400) ∧ zAll (zKx a c d) (zKy b c d) N = true) ∧ zK N S P pp le kn il io sx sy so co te lt go px py lo hi cap pen m') ∨ (S = 12 ∧ ∃ m', fX11_block m 0 (Int32.ofInt a) (Int32.ofInt b) (Int32.ofInt c) (Int32.ofInt d) = some (.inl (2, m')) ∧ zK N S P pp le kn il io sx sy so co te lt go px py lo hi cap pen m') ∨ ∃ m' f g, fX11_block m 0 (Int32.ofInt a) (Int32.ofInt b) (Int32.ofInt c) (Int32.ofInt d) = some (.inr (Int32.ofInt S, m')) ∧ S < 12 ∧ zK N (S + 1) P pp le kn il io (zAdd S f sx) (zAdd S g sy) so co te lt go px py lo hi cap pen m' := by
  have X := fX11_block_ok K.1 K.2.1 K.2.2.1 K.2.2.2.1 (a := a) (b := b) (c := c) (d := d) (by omega) (by omega) (by omega) (by omega) (by omega) (by omega) (by omega) (by omega)
  have hS := K.2.2.1.1
  by_cases c0 : (1 ≤ c ∧ c ≤ 10) ∧ 1 ≤ d ∧ d ≤ 400
  · rw [if_pos c0] at X
    by_cases c1 : zAll (zKx a c d) (zKy b c d) N = true
    · rw [if_pos c1] at X
      by_cases c2 : S < 12
      · rw [if_pos c2] at X; exact Or.inr (Or.inr ⟨_, _, _, X, c2, K_keep K c2 c1⟩)
      · rw [if_neg c2] at X; exact Or.inr (Or.inl ⟨by omega, _, X, K_draft K⟩)
    · rw [if_neg c1] at X; exact Or.inl ⟨_, X, fun q => c1 q.2, K_draft K⟩
  · rw [if_neg c0] at X; exact Or.inl ⟨_, X, fun q => c0 q.1, K⟩
theorem K_wedgeX {N S P pp : Nat} {le kn : Nat → Int} {il io : Nat → Bool} {sx sy : Nat → Nat → Int} {so : Nat → Nat} {co te : Nat → Int} {lt : Nat → Bool} {go : Nat → Nat → Nat} {px py : Nat → Nat → Int} {lo hi : Int} {cap : Nat → Nat → Int} {pen : Nat → Int} {m : dM} (K : zK N S P pp le kn il io sx sy so co te lt go px py lo hi cap pen m) {a b c : Int} (hr : (-2147483648 ≤ a ∧ a < 2147483648) ∧ (-2147483648 ≤ b ∧ b < 2147483648) ∧ -2147483648 ≤ c ∧ c < 2147483648) : (∃ m', fX11_wedge m 0 (Int32.ofInt a) (Int32.ofInt b) (Int32.ofInt c) = some (.inl (1, m')) ∧ ¬ ((1 ≤ c ∧ c ≤ 400) ∧ zAll (zVx a c) (zVy b c) N = true) ∧ zK N S P pp le kn il io sx sy so co te lt go px py lo hi cap pen m') ∨ (S = 12 ∧ ∃ m', fX11_wedge m 0 (Int32.ofInt a) (Int32.ofInt b) (Int32.ofInt c) = some (.inl (2, m')) ∧ zK N S P pp le kn il io sx sy so co te lt go px py lo hi cap pen m') ∨ ∃ m' f g, fX11_wedge m 0 (Int32.ofInt a) (Int32.ofInt b) (Int32.ofInt c) = some (.inr (Int32.ofInt S, m')) ∧ S < 12 ∧ zK N (S + 1) P pp le kn il io (zAdd S f sx) (zAdd S g sy) so co te lt go px py lo hi cap pen m' := by
  have X := fX11_wedge_ok K.1 K.2.1 K.2.2.1 K.2.2.2.1 (a := a) (b := b) (c := c) (by omega) (by omega) (by omega) (by omega) (by omega) (by omega)
  have hS := K.2.2.1.1
  by_cases c0 : 1 ≤ c ∧ c ≤ 400
  · rw [if_pos c0] at X
    by_cases c1 : zAll (zVx a c) (zVy b c) N = true
    · rw [if_pos c1] at X
      by_cases c2 : S < 12
      · rw [if_pos c2] at X; exact Or.inr (Or.inr ⟨_, _, _, X, c2, K_keep K c2 c1⟩)
      · rw [if_neg c2] at X; exact Or.inr (Or.inl ⟨by omega, _, X, K_draft K⟩)
    · rw [if_neg c1] at X; exact Or.inl ⟨_, X, fun q => c1 q.2, K_draft K⟩
  · rw [if_neg c0] at X; exact Or.inl ⟨_, X, fun q => c0 q.1, K⟩
