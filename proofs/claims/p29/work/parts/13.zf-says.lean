def zAbs (z : Int) : Int := if 0 ≤ z then z else -z
theorem zNear {y : Int} (hy : 0 ≤ y) (hy' : y ≤ 840) : ∃ n1 n2 n3 : Int, n1 = (if zAbs (y - 280 * 1) < zAbs (y - 280 * 0) then 1 else 0) ∧ n2 = (if zAbs (y - 280 * 2) < zAbs (y - 280 * n1) then 2 else n1) ∧ n3 = (if zAbs (y - 280 * 3) < zAbs (y - 280 * n2) then 3 else n2) ∧ 0 ≤ n1 ∧ n1 < 4 ∧ 0 ≤ n2 ∧ n2 < 4 ∧ n3 = (y + 139) / 280 := by
  have a10 : (zAbs (y - 280 * 1) < zAbs (y - 280 * 0)) = (280 < 2 * y) := by
    refine propext ⟨fun q => ?_, fun q => ?_⟩
    · revert q; unfold zAbs; split <;> split <;> intro q <;> omega
    · unfold zAbs; split <;> split <;> omega
  have a20 : (zAbs (y - 280 * 2) < zAbs (y - 280 * 0)) = (560 < 2 * y) := by
    refine propext ⟨fun q => ?_, fun q => ?_⟩
    · revert q; unfold zAbs; split <;> split <;> intro q <;> omega
    · unfold zAbs; split <;> split <;> omega
  have a21 : (zAbs (y - 280 * 2) < zAbs (y - 280 * 1)) = (840 < 2 * y) := by
    refine propext ⟨fun q => ?_, fun q => ?_⟩
    · revert q; unfold zAbs; split <;> split <;> intro q <;> omega
    · unfold zAbs; split <;> split <;> omega
  have a30 : (zAbs (y - 280 * 3) < zAbs (y - 280 * 0)) = (840 < 2 * y) := by
    refine propext ⟨fun q => ?_, fun q => ?_⟩
    · revert q; unfold zAbs; split <;> split <;> intro q <;> omega
    · unfold zAbs; split <;> split <;> omega
  have a31 : (zAbs (y - 280 * 3) < zAbs (y - 280 * 1)) = (1120 < 2 * y) := by
    refine propext ⟨fun q => ?_, fun q => ?_⟩
    · revert q; unfold zAbs; split <;> split <;> intro q <;> omega
    · unfold zAbs; split <;> split <;> omega
  have a32 : (zAbs (y - 280 * 3) < zAbs (y - 280 * 2)) = (1400 < 2 * y) := by
    refine propext ⟨fun q => ?_, fun q => ?_⟩
    · revert q; unfold zAbs; split <;> split <;> intro q <;> omega
    · unfold zAbs; split <;> split <;> omega
  refine ⟨_, _, _, rfl, rfl, rfl, ?_⟩
  rcases (show 2 * y ≤ 280 ∨ (280 < 2 * y ∧ 2 * y ≤ 840) ∨ (840 < 2 * y ∧ 2 * y ≤ 1400) ∨ 1400 < 2 * y by omega) with c | c | c | c
  · rw [show (if zAbs (y - 280 * 1) < zAbs (y - 280 * 0) then (1 : Int) else 0) = 0 from if_neg (by rw [a10]; omega), show (if zAbs (y - 280 * 2) < zAbs (y - 280 * 0) then (2 : Int) else 0) = 0 from if_neg (by rw [a20]; omega), show (if zAbs (y - 280 * 3) < zAbs (y - 280 * 0) then (3 : Int) else 0) = 0 from if_neg (by rw [a30]; omega)]
    omega
  · rw [show (if zAbs (y - 280 * 1) < zAbs (y - 280 * 0) then (1 : Int) else 0) = 1 from if_pos (by rw [a10]; omega), show (if zAbs (y - 280 * 2) < zAbs (y - 280 * 1) then (2 : Int) else 1) = 1 from if_neg (by rw [a21]; omega), show (if zAbs (y - 280 * 3) < zAbs (y - 280 * 1) then (3 : Int) else 1) = 1 from if_neg (by rw [a31]; omega)]
    omega
  · rw [show (if zAbs (y - 280 * 1) < zAbs (y - 280 * 0) then (1 : Int) else 0) = 1 from if_pos (by rw [a10]; omega), show (if zAbs (y - 280 * 2) < zAbs (y - 280 * 1) then (2 : Int) else 1) = 2 from if_pos (by rw [a21]; omega), show (if zAbs (y - 280 * 3) < zAbs (y - 280 * 2) then (3 : Int) else 2) = 2 from if_neg (by rw [a32]; omega)]
    omega
  · rw [show (if zAbs (y - 280 * 1) < zAbs (y - 280 * 0) then (1 : Int) else 0) = 1 from if_pos (by rw [a10]; omega), show (if zAbs (y - 280 * 2) < zAbs (y - 280 * 1) then (2 : Int) else 1) = 2 from if_pos (by rw [a21]; omega), show (if zAbs (y - 280 * 3) < zAbs (y - 280 * 2) then (3 : Int) else 2) = 3 from if_pos (by rw [a32]; omega)]
    omega
theorem fX11_page_ok {N S P : Nat} {le kn : Nat → Int} {il io : Nat → Bool} {sx sy : Nat → Nat → Int} {so : Nat → Nat} {co te : Nat → Int} {lt : Nat → Bool} {go : Nat → Nat → Nat} {m : dM} (hd : zDr N le kn) (hdc : zDc N le kn il io m) (hs : zSr N S sx sy) (hr : zPr N S P sx sy so co te lt go) (h : zPc N P sx sy so co te lt go m) {a b c : Int} (h1 : -2147483648 ≤ a) (h2 : a < 2147483648) (h3 : -2147483648 ≤ b) (h4 : b < 2147483648) (h5 : -2147483648 ≤ c) (h6 : c < 2147483648) : fX11_page m 0 (Int32.ofInt a) (Int32.ofInt b) (Int32.ofInt c) = if (0 ≤ a ∧ a < P) ∧ 0 ≤ b ∧ b < N then if 0 ≤ c ∧ c ≤ 3 then some (.inr (Int32.ofInt (zSay (zX sx so go a.toNat b.toNat) (zX sy so go a.toNat b.toNat) c.toNat), m)) else some (.inl (1, m)) else some (.inl (3, m)) := by
  have hP := hr.1
  have hN := hd.2.1
  unfold fX11_page
  rw [dg_ok kF, fX11_needPart_ok hr h h1 h2]
  by_cases c1 : 0 ≤ a ∧ a < P
  · obtain ⟨i, rfl⟩ := zi_nat c1.1
    rw [if_pos c1]
    simp only [Option.bind_some, dS]
    rw [fX11_needDot_ok hd hdc h3 h4]
    by_cases c2 : 0 ≤ b ∧ b < N
    · obtain ⟨d, rfl⟩ := zi_nat c2.1
      obtain ⟨b1, b2⟩ := zX_in hs hr (show i < P by omega) (show d < N by omega)
      obtain ⟨s1, s2, s3⟩ := kPst (show i < 12 by omega)
      rw [if_pos c2, if_pos ⟨c1, c2⟩]
      simp only [Option.bind_some]
      rw [show (0 : Int32) = Int32.ofInt 0 from rfl, show (3 : Int32) = Int32.ofInt 3 from rfl, fX11_needRange_ok m h5 h6 (by omega) (by omega) (by omega) (by omega), Int.toNat_natCast, Int.toNat_natCast]
      by_cases c3 : 0 ≤ c ∧ c ≤ 3
      · rw [if_pos c3, if_pos c3]
        simp only [Option.bind_some]
        unfold fX5_ends fX11_nearestLine fX11_nearestRow
        rw [fX8_numbered_ok (by omega), Option.bind_some, dg_ok (kPart (by omega)), dg_ok (kPart (by omega)), Option.bind_some, dg_ok s2.1, fX9_x_ok s2 (by omega), fX9_y_ok s2 (by omega), ((h.2 i (by omega)).2.2.2.2 d (by omega)).2.1, ((h.2 i (by omega)).2.2.2.2 d (by omega)).2.2.1]
        generalize zX sx so go i d = x at *
        generalize zX sy so go i d = y at *
        have e1 : Int32.ofInt x + 40 = Int32.ofInt (x + 40) := by rw [show (40 : Int32) = Int32.ofInt 40 from rfl, zi_add]
        have e2 : Int32.ofInt y + 140 - 1 = Int32.ofInt (y + 139) := by rw [show (140 : Int32) = Int32.ofInt 140 from rfl, show (1 : Int32) = Int32.ofInt 1 from rfl, zi_add, zi_sub]; congr 1; omega
        have e3 := fX11_downBy_ok m (a := x + 40) (b := 80) (by omega) (by omega) (by omega) (by omega)
        have e4 := fX11_downBy_ok m (a := y + 139) (b := 280) (by omega) (by omega) (by omega) (by omega)
        simp only [Option.bind_some, e1, e2, show (80 : Int32) = Int32.ofInt 80 from rfl, show (280 : Int32) = Int32.ofInt 280 from rfl, e3, e4, zi_mul, zi_sub]
        rcases (show c = 0 ∨ c = 1 ∨ c = 2 ∨ c = 3 by omega) with rfl | rfl | rfl | rfl
        · rw [if_pos (show Int32.ofInt 0 = Int32.ofInt 0 from rfl)]; rfl
        · rw [if_neg (show ¬ Int32.ofInt 1 = Int32.ofInt 0 by decide), if_pos (show Int32.ofInt 1 = 1 from rfl)]; rfl
        · rw [if_neg (show ¬ Int32.ofInt 2 = Int32.ofInt 0 by decide), if_neg (show ¬ Int32.ofInt 2 = 1 by decide), if_pos (show Int32.ofInt 2 = 2 from rfl)]; rfl
        · rw [if_neg (show ¬ Int32.ofInt 3 = Int32.ofInt 0 by decide), if_neg (show ¬ Int32.ofInt 3 = 1 by decide), if_neg (show ¬ Int32.ofInt 3 = 2 by decide)]; rfl
      · rw [if_neg c3, if_neg c3]; rfl
    · rw [if_neg c2, if_neg (fun q => c2 q.2)]; rfl
  · rw [if_neg c1, if_neg (fun q => c1 q.1)]; rfl
