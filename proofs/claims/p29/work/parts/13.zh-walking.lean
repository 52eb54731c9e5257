theorem zSq_in {a b c d : Int} (h1 : 0 ≤ a) (h2 : a ≤ 1600) (h3 : 0 ≤ b) (h4 : b ≤ 1600) (h5 : 0 ≤ c) (h6 : c ≤ 1600) (h7 : 0 ≤ d) (h8 : d ≤ 1600) : 0 ≤ zSq a b c d ∧ zSq a b c d ≤ 5120000 := by
  unfold zSq
  have q : ∀ e : Int, -1600 ≤ e → e ≤ 1600 → 0 ≤ e * e ∧ e * e ≤ 2560000 := by
    intro e q1 q2
    rcases Int.lt_or_le e 0 with q | q
    · have := zmul_bd (c := -e) (e := -e) (n := 1600) (M := 1600) (by omega) (by omega) (by omega) (by omega) (by decide)
      have e1 : -e * -e = e * e := by grind
      have := Int.mul_nonneg (show 0 ≤ -e by omega) (show 0 ≤ -e by omega)
      omega
    · have := zmul_bd (c := e) (e := e) (n := 1600) (M := 1600) q q2 (by omega) (by omega) (by decide)
      have := Int.mul_nonneg q q
      omega
  have a1 := q (a - c) (by omega) (by omega)
  have a2 := q (b - d) (by omega) (by omega)
  omega
theorem zSq_sym (a b c d : Int) : zSq a b c d = zSq c d a b := by unfold zSq; grind
def zWk (sx sy : Nat → Nat → Int) (so : Nat → Nat) (go : Nat → Nat → Nat) (i N : Nat) : Int := zSum (fun d => zSq (zX sx so go i d) (zX sy so go i d) (zX sx so go (i - 1) d) (zX sy so go (i - 1) d)) N
theorem fX5_squaresOfWays_ok {N S P : Nat} {sx sy : Nat → Nat → Int} {so : Nat → Nat} {co te : Nat → Int} {lt : Nat → Bool} {go : Nat → Nat → Nat} {m : dM} (hN : N ≤ 10) (hs : zSr N S sx sy) (hr : zPr N S P sx sy so co te lt go) (h : zPc N P sx sy so co te lt go m) {i : Nat} (hi : i < P) : fX5_squaresOfWays m (49 + 8 * i) (Int32.ofInt N) = some (Int64.ofInt (zWk sx sy so go i N)) := by
  have hP := hr.1
  obtain ⟨c1, c2, c3, c4, c5⟩ := h.2 i hi
  obtain ⟨s1, s2, s3⟩ := kPst (show i < 12 by omega)
  unfold fX5_squaresOfWays
  have e := dlp_for (f := fun q => dP2 q (fun v2 v3 => fX5_squaresOfWays_l5 m (49 + 8 * i) (Int32.ofInt N) v2 v3)) (r := Int64.ofInt (zWk sx sy so go i N)) (fun k => (Int32.ofInt (k : Int), Int64.ofInt (zWk sx sy so go i k))) N 0 N dFl (by omega) (by show N < 100000; omega) (fun k _ hk => by
    show fX5_squaresOfWays_l5 m (49 + 8 * i) (Int32.ofInt N) (Int32.ofInt (k : Int)) (Int64.ofInt (zWk sx sy so go i k)) = _
    unfold fX5_squaresOfWays_l5
    have e1 : ¬ (Int32.ofInt (N : Int) ≤ Int32.ofInt (k : Int)) := by rw [zi_le (by omega) (by omega) (by omega) (by omega)]; omega
    obtain ⟨b1, b2⟩ := zX_in hs hr hi hk
    obtain ⟨b3, b4⟩ := zX_in hs hr (show i - 1 < P by omega) hk
    have bd := zSq_in (a := zX sx so go i k) (b := zX sy so go i k) (c := zX sx so go (i - 1) k) (d := zX sy so go (i - 1) k) (by omega) (by omega) (by omega) (by omega) (by omega) (by omega) (by omega) (by omega)
    rw [if_neg e1, fX9_squareTo_ok s1 s2 (by omega) (by omega), (c5 k hk).2.1, (c5 k hk).2.2.1, (c5 k hk).2.2.2.1, (c5 k hk).2.2.2.2, Option.bind_some]
    simp only [zi_sub, zi_mul, zi_add]
    have e2 : (zX sx so go (i - 1) k - zX sx so go i k) * (zX sx so go (i - 1) k - zX sx so go i k) + (zX sy so go (i - 1) k - zX sy so go i k) * (zX sy so go (i - 1) k - zX sy so go i k) = zSq (zX sx so go i k) (zX sy so go i k) (zX sx so go (i - 1) k) (zX sy so go (i - 1) k) := by unfold zSq; grind
    rw [e2, zi_j (by omega) (by omega), show (1 : Int32) = Int32.ofInt 1 from rfl]
    simp only [dlet, zj_add, zi_add]
    rfl) (by
    show fX5_squaresOfWays_l5 m (49 + 8 * i) (Int32.ofInt N) (Int32.ofInt (N : Int)) (Int64.ofInt (zWk sx sy so go i N)) = _
    unfold fX5_squaresOfWays_l5
    rw [if_pos (Int32.le_refl _)])
  rw [dg_ok (kPart (by omega)), show ((0 : Int32), (0 : Int64)) = (Int32.ofInt ((0 : Nat) : Int), Int64.ofInt (zWk sx sy so go i 0)) from rfl, e]
  rfl
theorem fX11_walking_ok {N S P : Nat} {le kn : Nat → Int} {il io : Nat → Bool} {sx sy : Nat → Nat → Int} {so : Nat → Nat} {co te : Nat → Int} {lt : Nat → Bool} {go : Nat → Nat → Nat} {m : dM} (hd : zDr N le kn) (hdc : zDc N le kn il io m) (hs : zSr N S sx sy) (hr : zPr N S P sx sy so co te lt go) (h : zPc N P sx sy so co te lt go m) {a : Int} (h1 : -2147483648 ≤ a) (h2 : a < 2147483648) : fX11_walking m 0 (Int32.ofInt a) = if 0 ≤ a ∧ a < P then some (.inr (Int64.ofInt (zWk sx sy so go a.toNat N), m)) else some (.inl (3, m)) := by
  have hP := hr.1
  unfold fX11_walking fX1_number
  rw [dg_ok kF, fX11_needPart_ok hr h h1 h2]
  by_cases c1 : 0 ≤ a ∧ a < P
  · obtain ⟨i, rfl⟩ := zi_nat c1.1
    rw [if_pos c1, if_pos c1]
    simp only [Option.bind_some, dS]
    rw [fX8_numbered_ok (by omega), Option.bind_some, dg_ok (kPart (by omega)), dg_ok kDots, hdc.1, Option.bind_some, fX5_squaresOfWays_ok hd.2.1 hs hr h (by omega), Int.toNat_natCast]
    rfl
  · rw [if_neg c1, if_neg c1]; rfl
