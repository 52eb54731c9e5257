def zCa (sx sy : Nat → Nat → Int) (so : Nat → Nat) (co : Nat → Int) (go : Nat → Nat → Nat) (i d : Nat) (c t w : Int) : Bool :=
  let e := if c + t ≤ co i then c + t else co i
  decide (zAbs (zOn (zX sx so go (i - 1) d) (zX sx so go i d) c (co i) + w * t - zOn (zX sx so go (i - 1) d) (zX sx so go i d) e (co i)) ≤ 10 ∧ zAbs (zOn (zX sy so go (i - 1) d) (zX sy so go i d) c (co i) - zOn (zX sy so go (i - 1) d) (zX sy so go i d) e (co i)) ≤ 10)
theorem zAbs_in {z M : Int} (h1 : -M ≤ z) (h2 : z ≤ M) : 0 ≤ zAbs z ∧ zAbs z ≤ M := by unfold zAbs; split <;> omega
theorem zAbs_c {z : Int} (h1 : -1000000 ≤ z) (h2 : z ≤ 1000000) : (if 0 ≤ Int32.ofInt z then Int32.ofInt z else 0 - Int32.ofInt z) = Int32.ofInt (zAbs z) := by
  unfold zAbs
  rw [show (0 : Int32) = Int32.ofInt 0 from rfl]
  simp only [zi_le (show (-2147483648 : Int) ≤ 0 by decide) (show (0 : Int) < 2147483648 by decide) (show -2147483648 ≤ z by omega) (by omega), zi_sub]
  by_cases c : 0 ≤ z
  · rw [if_pos c, if_pos c]
  · rw [if_neg c, if_neg c]; congr 1; omega
theorem zLast {α : Type} {X Y : Int} (hX : 0 ≤ X ∧ X ≤ 1000000) (hY : 0 ≤ Y ∧ Y ≤ 1000000) (f : Int32 → α) : (if (10 : Int32) < Int32.ofInt X then f 0 else if (10 : Int32) < Int32.ofInt Y then f 0 else f 1) = f (zB (decide (X ≤ 10 ∧ Y ≤ 10))) := by
  rw [show (10 : Int32) = Int32.ofInt 10 from rfl]
  simp only [zi_lt (show (-2147483648 : Int) ≤ 10 by decide) (show (10 : Int) < 2147483648 by decide) (show -2147483648 ≤ X by omega) (by omega), zi_lt (show (-2147483648 : Int) ≤ 10 by decide) (show (10 : Int) < 2147483648 by decide) (show -2147483648 ≤ Y by omega) (by omega)]
  by_cases c1 : 10 < X
  · rw [if_pos c1, decide_eq_false (by omega)]; rfl
  · rw [if_neg c1]
    by_cases c2 : 10 < Y
    · rw [if_pos c2, decide_eq_false (by omega)]; rfl
    · rw [if_neg c2, decide_eq_true (by omega)]; rfl
theorem fX11_caught_ok {N S P : Nat} {le kn : Nat → Int} {il io : Nat → Bool} {sx sy : Nat → Nat → Int} {so : Nat → Nat} {co te : Nat → Int} {lt : Nat → Bool} {go : Nat → Nat → Nat} {m : dM} (hd : zDr N le kn) (hdc : zDc N le kn il io m) (hs : zSr N S sx sy) (hr : zPr N S P sx sy so co te lt go) (h : zPc N P sx sy so co te lt go m) {a b c t w : Int} (h1 : -2147483648 ≤ a) (h2 : a < 2147483648) (h3 : -2147483648 ≤ b) (h4 : b < 2147483648) (h5 : -2147483648 ≤ c) (h6 : c < 2147483648) (t1 : -2147483648 ≤ t) (t2 : t < 2147483648) (w1 : -2147483648 ≤ w) (w2 : w < 2147483648) : fX11_caught m 0 (Int32.ofInt a) (Int32.ofInt c) (Int32.ofInt b) (Int32.ofInt t) (Int32.ofInt w) = if (0 ≤ a ∧ a < P) ∧ 0 ≤ b ∧ b < N then if (0 ≤ c ∧ c ≤ co a.toNat) ∧ (1 ≤ t ∧ t ≤ 9) ∧ -20 ≤ w ∧ w ≤ 20 then if zMar kn il io b.toNat = true then some (.inr (zB (zCa sx sy so co go a.toNat b.toNat c t w), m)) else some (.inl (2, m)) else some (.inl (1, m)) else some (.inl (3, m)) := by
  have hP := hr.1
  have hN := hd.2.1
  unfold fX11_caught
  rw [dg_ok kF, fX11_needPart_ok hr h h1 h2]
  by_cases c1 : 0 ≤ a ∧ a < P
  · obtain ⟨i, rfl⟩ := zi_nat c1.1
    rw [if_pos c1]
    simp only [Option.bind_some, dS]
    rw [fX11_needDot_ok hd hdc h3 h4]
    by_cases c2 : 0 ≤ b ∧ b < N
    · obtain ⟨d, rfl⟩ := zi_nat c2.1
      obtain ⟨r1, r2, r3, r4, r5, r6, r7⟩ := hr.2 i (by omega)
      rw [if_pos c2, if_pos ⟨c1, c2⟩]
      simp only [Option.bind_some]
      rw [fX8_numbered_ok (by omega), Option.bind_some, dg_ok (kPart (by omega))]
      unfold fX5_counts
      rw [dg_ok (kPart (by omega)), (h.2 i (by omega)).2.1, Option.bind_some, show (0 : Int32) = Int32.ofInt 0 from rfl, fX11_needRange_ok m h5 h6 (by omega) (by omega) (by omega) (by omega), Int.toNat_natCast, Int.toNat_natCast]
      by_cases c3 : 0 ≤ c ∧ c ≤ co i
      · rw [if_pos c3]
        simp only [Option.bind_some]
        rw [show (1 : Int32) = Int32.ofInt 1 from rfl, show (9 : Int32) = Int32.ofInt 9 from rfl, fX11_needRange_ok m t1 t2 (by omega) (by omega) (by omega) (by omega)]
        by_cases c4 : 1 ≤ t ∧ t ≤ 9
        · rw [if_pos c4]
          simp only [Option.bind_some]
          rw [show (-20 : Int32) = Int32.ofInt (-20) from rfl, show (20 : Int32) = Int32.ofInt 20 from rfl, fX11_needRange_ok m w1 w2 (by omega) (by omega) (by omega) (by omega)]
          by_cases c5 : -20 ≤ w ∧ w ≤ 20
          · rw [if_pos c5, if_pos ⟨c3, c4, c5⟩]
            simp only [Option.bind_some]
            rw [fX1_marches_ok hd hdc (by omega), Option.bind_some]
            cases hz : zMar kn il io d
            · rw [if_pos (show zB false = Int32.ofInt 0 from rfl), if_neg (by decide)]
            · rw [if_neg (show ¬ zB true = Int32.ofInt 0 by decide), if_pos rfl, dg_ok (kPart (by omega)), Option.bind_some, (h.2 i (by omega)).2.1]
              obtain ⟨b1, b2⟩ := zX_in hs hr (show i < P by omega) (show d < N by omega)
              obtain ⟨b3, b4⟩ := zX_in hs hr (show i - 1 < P by omega) (show d < N by omega)
              have e1 : (if Int32.ofInt (co i) < Int32.ofInt c + Int32.ofInt t then Int32.ofInt (co i) else Int32.ofInt c + Int32.ofInt t) = Int32.ofInt (if c + t ≤ co i then c + t else co i) := by
                rw [zi_add]
                simp only [zi_lt (show -2147483648 ≤ co i by omega) (show co i < 2147483648 by omega) (show -2147483648 ≤ c + t by omega) (show c + t < 2147483648 by omega)]
                by_cases q : c + t ≤ co i
                · rw [if_neg (by omega), if_pos q]
                · rw [if_pos (by omega), if_neg q]
              rw [e1]
              simp only [dlet, zCa]
              have q1 : 0 ≤ (if c + t ≤ co i then c + t else co i) := by split <;> omega
              have q2 : (if c + t ≤ co i then c + t else co i) ≤ co i := by split <;> omega
              generalize (if c + t ≤ co i then c + t else co i) = e at q1 q2 ⊢
              rw [fX5_xOf_ok hN hs hr h (by omega) (by omega) c3.1 c3.2, fX5_xOf_ok hN hs hr h (by omega) (by omega) q1 q2, fX5_yOf_ok hN hs hr h (by omega) (by omega) c3.1 c3.2, fX5_yOf_ok hN hs hr h (by omega) (by omega) q1 q2]
              have p1 := zOn_in (M := 1600) c3.1 c3.2 (by omega) b3.1 b3.2 b1.1 b1.2
              have p2 := zOn_in (M := 1600) q1 q2 (by omega) b3.1 b3.2 b1.1 b1.2
              have p3 := zOn_in (M := 840) c3.1 c3.2 (by omega) b4.1 b4.2 b2.1 b2.2
              have p4 := zOn_in (M := 840) q1 q2 (by omega) b4.1 b4.2 b2.1 b2.2
              generalize zOn (zX sx so go (i - 1) d) (zX sx so go i d) c (co i) = X1 at *
              generalize zOn (zX sx so go (i - 1) d) (zX sx so go i d) e (co i) = X2 at *
              generalize zOn (zX sy so go (i - 1) d) (zX sy so go i d) c (co i) = Y1 at *
              generalize zOn (zX sy so go (i - 1) d) (zX sy so go i d) e (co i) = Y2 at *
              have p5 : -(9 * 20) ≤ t * w ∧ t * w ≤ 9 * 20 := zmul_bd (by omega) c4.2 c5.1 c5.2 (by decide)
              have p6 : w * t = t * w := Int.mul_comm _ _
              simp only [Option.bind_some, zi_mul, zi_add, zi_sub]
              have k1 := zAbs_c (z := X1 + w * t - X2) (by omega) (by omega)
              have k2 := zAbs_c (z := Y1 - Y2) (by omega) (by omega)
              rw [show (0 : Int32) = Int32.ofInt 0 from rfl] at k1 k2
              simp only [zi_sub] at k1 k2
              rw [k1, k2]
              have k3 := zAbs_in (M := 1000000) (z := X1 + w * t - X2) (by omega) (by omega)
              have k4 := zAbs_in (M := 1000000) (z := Y1 - Y2) (by omega) (by omega)
              exact zLast k3 k4 (fun v => some (Sum.inr (v, m)))
          · rw [if_neg c5, if_neg (fun q => c5 q.2.2)]; rfl
        · rw [if_neg c4, if_neg (fun q => c4 q.2.1)]; rfl
      · rw [if_neg c3, if_neg (fun q => c3 q.1)]; rfl
    · rw [if_neg c2, if_neg (fun q => c2 q.2)]; rfl
  · rw [if_neg c1, if_neg (fun q => c1 q.1)]; rfl
theorem zLast2 {α : Type} {X Y : Int} (hX : 0 ≤ X ∧ X ≤ 1000000) (hY : 0 ≤ Y ∧ Y ≤ 1000000) (f : Int32 → α) : (if (10 : Int32) < Int32.ofInt X then f 0 else if (10 : Int32) < Int32.ofInt Y then f 0 else f 1) = f (zB (decide (X ≤ 10 ∧ Y ≤ 10))) := zLast hX hY f
