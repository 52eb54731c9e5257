theorem zi_10 (i d : Nat) : (10 : Int32) * Int32.ofInt i + Int32.ofInt d = Int32.ofInt (10 * i + d : Nat) := by
  rw [show (10 : Int32) = Int32.ofInt 10 from rfl, zi_mul, zi_add]; congr 1
theorem zi_nz {i : Nat} (h : i < 2147483648) : (Int32.ofInt (i : Int) = 0) = (i = 0) := by
  rw [show (0 : Int32) = Int32.ofInt 0 from rfl, zi_eq (by omega) (by omega) (by omega) (by omega)]
  exact propext ⟨fun q => by omega, fun q => by omega⟩
theorem zi_pr {i : Nat} : Int32.ofInt ((i + 1 : Nat) : Int) - 1 = Int32.ofInt i := by
  rw [show (1 : Int32) = Int32.ofInt 1 from rfl, zi_sub]; congr 1; omega
theorem fX11_place_ok {N S P : Nat} {le kn : Nat → Int} {il io : Nat → Bool} {sx sy : Nat → Nat → Int} {so : Nat → Nat} {co te : Nat → Int} {lt : Nat → Bool} {go : Nat → Nat → Nat} {m : dM} (hd : zDr N le kn) (hdc : zDc N le kn il io m) (hr : zPr N S P sx sy so co te lt go) (h : zPc N P sx sy so co te lt go m) {a b : Int} (h1 : -2147483648 ≤ a) (h2 : a < 2147483648) (h3 : -2147483648 ≤ b) (h4 : b < 2147483648) : fX11_place m 0 (Int32.ofInt a) (Int32.ofInt b) = if (0 ≤ a ∧ a < P) ∧ 0 ≤ b ∧ b < N then some (.inr (Int32.ofInt (go a.toNat b.toNat), m)) else some (.inl (3, m)) := by
  have hP := hr.1
  have hN := hd.2.1
  unfold fX11_place
  rw [dg_ok kF, fX11_needPart_ok hr h h1 h2]
  by_cases c1 : 0 ≤ a ∧ a < P
  · obtain ⟨i, rfl⟩ := zi_nat c1.1
    rw [if_pos c1]
    simp only [Option.bind_some, dS]
    rw [fX11_needDot_ok hd hdc h3 h4]
    by_cases c2 : 0 ≤ b ∧ b < N
    · obtain ⟨d, rfl⟩ := zi_nat c2.1
      rw [if_pos c2, if_pos ⟨c1, c2⟩]
      simp only [Option.bind_some]
      rw [fX8_numbered_ok (by omega), Option.bind_some, dg_ok (kPart (by omega))]
      unfold fX5_placeOf
      rw [dg_ok (kPart (by omega)), fX11_isInRow_nat m (by omega), Option.bind_some, if_neg z10, (kPst (show i < 12 by omega)).2.2, dg_ok (dIx_nat (by omega) (by decide)), zi_cn (by omega), ((h.2 i (by omega)).2.2.2.2 d (by omega)).1]
      rfl
    · rw [if_neg c2, if_neg (fun q => c2 q.2)]; rfl
  · rw [if_neg c1, if_neg (fun q => c1 q.1)]; rfl
/-- what 'at' answers -/
def zAt (sx sy : Nat → Nat → Int) (so : Nat → Nat) (co : Nat → Int) (go : Nat → Nat → Nat) (i d : Nat) (c : Int) : Int := 2000 * zOn (zX sx so go (i - 1) d) (zX sx so go i d) c (co i) + zOn (zX sy so go (i - 1) d) (zX sy so go i d) c (co i)
theorem fX11_at_ok {N S P : Nat} {le kn : Nat → Int} {il io : Nat → Bool} {sx sy : Nat → Nat → Int} {so : Nat → Nat} {co te : Nat → Int} {lt : Nat → Bool} {go : Nat → Nat → Nat} {m : dM} (hd : zDr N le kn) (hdc : zDc N le kn il io m) (hs : zSr N S sx sy) (hr : zPr N S P sx sy so co te lt go) (h : zPc N P sx sy so co te lt go m) {a b c : Int} (h1 : -2147483648 ≤ a) (h2 : a < 2147483648) (h3 : -2147483648 ≤ b) (h4 : b < 2147483648) (h5 : -2147483648 ≤ c) (h6 : c < 2147483648) : fX11_at m 0 (Int32.ofInt a) (Int32.ofInt c) (Int32.ofInt b) = if (0 ≤ a ∧ a < P) ∧ 0 ≤ b ∧ b < N then if 0 ≤ c ∧ c ≤ co a.toNat then some (.inr (Int32.ofInt (zAt sx sy so co go a.toNat b.toNat c), m)) else some (.inl (1, m)) else some (.inl (3, m)) := by
  have hP := hr.1
  have hN := hd.2.1
  unfold fX11_at
  rw [dg_ok kF, fX11_needPart_ok hr h h1 h2]
  by_cases c1 : 0 ≤ a ∧ a < P
  · obtain ⟨i, rfl⟩ := zi_nat c1.1
    rw [if_pos c1]
    simp only [Option.bind_some, dS]
    rw [fX11_needDot_ok hd hdc h3 h4]
    by_cases c2 : 0 ≤ b ∧ b < N
    · obtain ⟨d, rfl⟩ := zi_nat c2.1
      obtain ⟨r1, r2, r3, r4, r5, r6, r7⟩ := hr.2 i (by omega)
      rw [if_pos c2, if_pos ⟨c1, c2⟩]
      simp only [Option.bind_some]
      rw [fX8_numbered_ok (by omega), Option.bind_some, dg_ok (kPart (by omega))]
      unfold fX5_counts
      rw [dg_ok (kPart (by omega)), (h.2 i (by omega)).2.1, Option.bind_some, show (0 : Int32) = Int32.ofInt 0 from rfl, fX11_needRange_ok m h5 h6 (by omega) (by omega) (by omega) (by omega), Int.toNat_natCast, Int.toNat_natCast]
      by_cases c3 : 0 ≤ c ∧ c ≤ co i
      · rw [if_pos c3, if_pos c3]
        simp only [Option.bind_some]
        rw [fX5_xOf_ok hN hs hr h (by omega) (by omega) c3.1 c3.2, fX5_yOf_ok hN hs hr h (by omega) (by omega) c3.1 c3.2]
        simp only [Option.bind_some]
        rw [show (2000 : Int32) = Int32.ofInt 2000 from rfl, zi_mul, zi_add]
        rfl
      · rw [if_neg c3, if_neg c3]; rfl
    · rw [if_neg c2, if_neg (fun q => c2 q.2)]; rfl
  · rw [if_neg c1, if_neg (fun q => c1 q.1)]; rfl
