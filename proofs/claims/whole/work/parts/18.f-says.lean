def zAbs (z : Int) : Int := if 0 ≤ z then z else -z
theorem fX12_size_ok (m : dM) {z : Int} (h1 : -2147483647 ≤ z) (h2 : z < 2147483648) : fX12_size m (Int32.ofInt z) = some (Int32.ofInt (zAbs z)) := by
  unfold fX12_size zAbs
  rw [show (0 : Int32) = Int32.ofInt 0 from rfl]
  simp only [zi_le (show (-2147483648 : Int) ≤ 0 by decide) (show (0 : Int) < 2147483648 by decide) (show -2147483648 ≤ z by omega) h2, zi_neg]
  by_cases c : 0 ≤ z
  · rw [if_pos c, if_pos c]
  · rw [if_neg c, if_neg c]
theorem fX12_says_l32_ok (m : dM) {y k n : Int} (hy : 0 ≤ y) (hy' : y ≤ 840) (hk : 0 ≤ k) (hk' : k < 4) (hn : 0 ≤ n) (hn' : n < 4) : fX12_says_l32 m (Int32.ofInt y) (Int32.ofInt k) (Int32.ofInt n) = some (.inl (Int32.ofInt (k + 1), Int32.ofInt (if zAbs (y - 280 * k) < zAbs (y - 280 * n) then k else n))) := by
  have b1 : 0 ≤ zAbs (y - 280 * k) ∧ zAbs (y - 280 * k) ≤ 2000 := by unfold zAbs; split <;> omega
  have b2 : 0 ≤ zAbs (y - 280 * n) ∧ zAbs (y - 280 * n) ≤ 2000 := by unfold zAbs; split <;> omega
  unfold fX12_says_l32
  rw [show (4 : Int32) = Int32.ofInt 4 from rfl, show (280 : Int32) = Int32.ofInt 280 from rfl, show (1 : Int32) = Int32.ofInt 1 from rfl]
  simp only [zi_mul, zi_sub, zi_add]
  rw [fX12_size_ok m (by omega) (by omega), fX12_size_ok m (by omega) (by omega)]
  simp only [Option.bind_some, dlet, zi_le (show (-2147483648 : Int) ≤ 4 by decide) (show (4 : Int) < 2147483648 by decide) (show -2147483648 ≤ k by omega) (show k < 2147483648 by omega), zi_le (show -2147483648 ≤ zAbs (y - 280 * n) by omega) (by omega) (show -2147483648 ≤ zAbs (y - 280 * k) by omega) (by omega)]
  rw [if_neg (by omega)]
  by_cases c : zAbs (y - 280 * n) ≤ zAbs (y - 280 * k)
  · rw [if_pos c, if_neg (by omega)]
  · rw [if_neg c, if_pos (by omega)]
theorem zNear {y : Int} (hy : 0 ≤ y) (hy' : y ≤ 840) : ∃ n1 n2 n3 : Int, n1 = (if zAbs (y - 280 * 1) < zAbs (y - 280 * 0) then 1 else 0) ∧ n2 = (if zAbs (y - 280 * 2) < zAbs (y - 280 * n1) then 2 else n1) ∧ n3 = (if zAbs (y - 280 * 3) < zAbs (y - 280 * n2) then 3 else n2) ∧ 0 ≤ n1 ∧ n1 < 4 ∧ 0 ≤ n2 ∧ n2 < 4 ∧ n3 = (y + 139) / 280 := by
  have a10 : (zAbs (y - 280 * 1) < zAbs (y - 280 * 0)) = (280 < 2 * y) := by
    refine propext ⟨fun q => ?_, fun q => ?_⟩
    · revert q; unfold zAbs; split <;> split <;> intro q <;> omega
    · unfold zAbs; split <;> split <;> omega
  have a20 : (zAbs (y - 280 * 2) < zAbs (y - 280 * 0)) = (560 < 2 * y) := by
    refine propext ⟨fun q => ?_, fun q => ?_⟩
    · revert q; unfold zAbs; split <;> split <;> intro q <;> omega
    · unfold zAbs; split <;> split <;> omega
  have a21 : (zAbs (y - 280 * 2) < zAbs (y - 280 * 1)) = (840 < 2 * y) := by
    refine propext ⟨fun q => ?_, fun q => ?_⟩
    · revert q; unfold zAbs; split <;> split <;> intro q <;> omega
    · unfold zAbs; split <;> split <;> omega
  have a30 : (zAbs (y - 280 * 3) < zAbs (y - 280 * 0)) = (840 < 2 * y) := by
    refine propext ⟨fun q => ?_, fun q => ?_⟩
    · revert q; unfold zAbs; split <;> split <;> intro q <;> omega
    · unfold zAbs; split <;> split <;> omega
  have a31 : (zAbs (y - 280 * 3) < zAbs (y - 280 * 1)) = (1120 < 2 * y) := by
    refine propext ⟨fun q => ?_, fun q => ?_⟩
    · revert q; unfold zAbs; split <;> split <;> intro q <;> omega
    · unfold zAbs; split <;> split <;> omega
  have a32 : (zAbs (y - 280 * 3) < zAbs (y - 280 * 2)) = (1400 < 2 * y) := by
    refine propext ⟨fun q => ?_, fun q => ?_⟩
    · revert q; unfold zAbs; split <;> split <;> intro q <;> omega
    · unfold zAbs; split <;> split <;> omega
  refine ⟨_, _, _, rfl, rfl, rfl, ?_⟩
  rcases (show 2 * y ≤ 280 ∨ (280 < 2 * y ∧ 2 * y ≤ 840) ∨ (840 < 2 * y ∧ 2 * y ≤ 1400) ∨ 1400 < 2 * y by omega) with c | c | c | c
  · rw [show (if zAbs (y - 280 * 1) < zAbs (y - 280 * 0) then (1 : Int) else 0) = 0 from if_neg (by rw [a10]; omega), show (if zAbs (y - 280 * 2) < zAbs (y - 280 * 0) then (2 : Int) else 0) = 0 from if_neg (by rw [a20]; omega), show (if zAbs (y - 280 * 3) < zAbs (y - 280 * 0) then (3 : Int) else 0) = 0 from if_neg (by rw [a30]; omega)]
    omega
  · rw [show (if zAbs (y - 280 * 1) < zAbs (y - 280 * 0) then (1 : Int) else 0) = 1 from if_pos (by rw [a10]; omega), show (if zAbs (y - 280 * 2) < zAbs (y - 280 * 1) then (2 : Int) else 1) = 1 from if_neg (by rw [a21]; omega), show (if zAbs (y - 280 * 3) < zAbs (y - 280 * 1) then (3 : Int) else 1) = 1 from if_neg (by rw [a31]; omega)]
    omega
  · rw [show (if zAbs (y - 280 * 1) < zAbs (y - 280 * 0) then (1 : Int) else 0) = 1 from if_pos (by rw [a10]; omega), show (if zAbs (y - 280 * 2) < zAbs (y - 280 * 1) then (2 : Int) else 1) = 2 from if_pos (by rw [a21]; omega), show (if zAbs (y - 280 * 3) < zAbs (y - 280 * 2) then (3 : Int) else 2) = 2 from if_neg (by rw [a32]; omega)]
    omega
  · rw [show (if zAbs (y - 280 * 1) < zAbs (y - 280 * 0) then (1 : Int) else 0) = 1 from if_pos (by rw [a10]; omega), show (if zAbs (y - 280 * 2) < zAbs (y - 280 * 1) then (2 : Int) else 1) = 2 from if_pos (by rw [a21]; omega), show (if zAbs (y - 280 * 3) < zAbs (y - 280 * 2) then (3 : Int) else 2) = 3 from if_pos (by rw [a32]; omega)]
    omega
theorem fX12_says_ok {N S P : Nat} {sx sy : Nat → Nat → Int} {so : Nat → Nat} {co te : Nat → Int} {lt : Nat → Bool} {go : Nat → Nat → Nat} {m : dM} (hN : N ≤ 10) (hs : zSr N S sx sy) (hm : zSm N S sx sy m) (hr : zPr N S P sx sy so co te lt go) (h : zPm N P so co te lt go m) {i d k : Nat} (hi : i < P) (hd : d < N) (hk : k < 4) : fX12_says m 444 (Int32.ofInt i) (Int32.ofInt d) (Int32.ofInt k) = some (Int32.ofInt (zSay (zX sx so go i d) (zX sy so go i d) k)) := by
  obtain ⟨b1, b2⟩ := zX_in hs hr hi hd
  unfold fX12_says
  rw [dg_ok kM, fX12_endX_ok hN hs hm hr h hi hd, Option.bind_some, fX12_endY_ok hN hs hm hr h hi hd, Option.bind_some]
  generalize zX sx so go i d = x at *
  generalize zX sy so go i d = y at *
  obtain ⟨n1, n2, n3, e1, e2, e3, q1, q2, q3, q4, q5⟩ := zNear b2.1 b2.2
  have eF : dFl = 99996 + 1 + 1 + 1 + 1 := rfl
  have s1 := fX12_says_l32_ok m (k := 1) (n := 0) b2.1 b2.2 (by decide) (by decide) (by decide) (by decide)
  have s2 := fX12_says_l32_ok m (k := 2) (n := n1) b2.1 b2.2 (by decide) (by decide) q1 q2
  have s3 := fX12_says_l32_ok m (k := 3) (n := n2) b2.1 b2.2 (by decide) (by decide) q3 q4
  rw [← e1] at s1; rw [← e2] at s2; rw [← e3, q5] at s3
  have s4 : fX12_says_l32 m (Int32.ofInt y) (Int32.ofInt (3 + 1)) (Int32.ofInt ((y + 139) / 280)) = some (.inr (Int32.ofInt ((y + 139) / 280))) := by unfold fX12_says_l32; rfl
  simp only [dlet]
  rw [eF, show ((1 : Int32), (0 : Int32)) = (Int32.ofInt 1, Int32.ofInt 0) from rfl, dlp1 (s' := (Int32.ofInt (1 + 1), Int32.ofInt n1)) s1, dlp1 (s' := (Int32.ofInt (2 + 1), Int32.ofInt n2)) s2, dlp1 (s' := (Int32.ofInt (3 + 1), Int32.ofInt ((y + 139) / 280))) s3, dlp2 s4]
  simp only [Option.bind_some, dP1]
  rw [show (40 : Int32) = Int32.ofInt 40 from rfl, show (80 : Int32) = Int32.ofInt 80 from rfl, show (280 : Int32) = Int32.ofInt 280 from rfl, zi_add, zi_dn (by omega) (by omega) (by omega) (by omega)]
  simp only [zi_mul, zi_sub]
  rcases (show k = 0 ∨ k = 1 ∨ k = 2 ∨ k = 3 by omega) with rfl | rfl | rfl | rfl
  · rw [if_pos (show Int32.ofInt ((0 : Nat) : Int) = 0 from rfl)]; rfl
  · rw [if_neg (show ¬ Int32.ofInt ((1 : Nat) : Int) = 0 by decide), if_pos (show Int32.ofInt ((1 : Nat) : Int) = 1 from rfl)]; rfl
  · rw [if_neg (show ¬ Int32.ofInt ((2 : Nat) : Int) = 0 by decide), if_neg (show ¬ Int32.ofInt ((2 : Nat) : Int) = 1 by decide), if_pos (show Int32.ofInt ((2 : Nat) : Int) = 2 from rfl)]; rfl
  · rw [if_neg (show ¬ Int32.ofInt ((3 : Nat) : Int) = 0 by decide), if_neg (show ¬ Int32.ofInt ((3 : Nat) : Int) = 1 by decide), if_neg (show ¬ Int32.ofInt ((3 : Nat) : Int) = 2 by decide)]; rfl
theorem fX12_page_ok {N S P : Nat} {le kn : Nat → Int} {il io : Nat → Bool} {sx sy : Nat → Nat → Int} {so : Nat → Nat} {co te : Nat → Int} {lt : Nat → Bool} {go : Nat → Nat → Nat} {m : dM} (hd : zDr N le kn) (hdm : zDm N le kn il io m) (hs : zSr N S sx sy) (hm : zSm N S sx sy m) (hr : zPr N S P sx sy so co te lt go) (h : zPm N P so co te lt go m) {a b c : Int} (h1 : -2147483648 ≤ a) (h2 : a < 2147483648) (h3 : -2147483648 ≤ b) (h4 : b < 2147483648) (h5 : -2147483648 ≤ c) (h6 : c < 2147483648) : fX12_page m 444 (Int32.ofInt a) (Int32.ofInt b) (Int32.ofInt c) = if (0 ≤ a ∧ a < P) ∧ 0 ≤ b ∧ b < N then if 0 ≤ c ∧ c ≤ 3 then some (Int32.ofInt (zSay (zX sx so go a.toNat b.toNat) (zX sy so go a.toNat b.toNat) c.toNat), d1 m 444 25 0) else some (0, d1 m 444 25 2) else some (0, d1 m 444 25 1) := by
  have hP := hr.1
  have hN := hd.2.1
  unfold fX12_page
  rw [dg_ok kM, fX12_isPart_ok hr h h1 h2, Option.bind_some]
  by_cases c1 : 0 ≤ a ∧ a < P
  · obtain ⟨i, rfl⟩ := zi_nat c1.1
    rw [if_pos c1, if_neg z10, fX12_isDot_ok hd hdm h3 h4, Option.bind_some]
    by_cases c2 : 0 ≤ b ∧ b < N
    · obtain ⟨d, rfl⟩ := zi_nat c2.1
      have e := fX12_isIn_ok m h5 h6 (show (-2147483648 : Int) ≤ 0 by decide) (show (0 : Int) < 2147483648 by decide) (show (-2147483648 : Int) ≤ 3 by decide) (show (3 : Int) < 2147483648 by decide)
      rw [show (Int32.ofInt 0) = (0 : Int32) from rfl, show (Int32.ofInt 3) = (3 : Int32) from rfl] at e
      rw [if_pos c2, if_neg z10, if_pos ⟨c1, c2⟩, e, Option.bind_some, Int.toNat_natCast, Int.toNat_natCast]
      by_cases c3 : 0 ≤ c ∧ c ≤ 3
      · obtain ⟨k, rfl⟩ := zi_nat c3.1
        rw [if_pos c3, if_neg z10, if_pos c3]
        have h7n : zPm N P so co te lt go (d1 m 444 25 0) := h.to (fun a q1 q2 => by simp (disch := omega) only [zd1_ne, zd1_nk, zd2_1]) (by simp (disch := omega) only [zd1_ne, zd1_nk, zd2_1])
        have hmn : zSm N S sx sy (d1 m 444 25 0) := hm.to (fun a q1 q2 => by simp (disch := omega) only [zd1_ne, zd1_nk, zd2_1]) (by simp (disch := omega) only [zd1_ne, zd1_nk, zd2_1])
        simp only [dlet]
        rw [fX12_says_ok hN hs hmn hr h7n (by omega) (by omega) (by omega), Option.bind_some, Int.toNat_natCast]
      · rw [if_neg c3, if_pos rfl, if_neg c3]; rfl
    · rw [if_neg c2, if_pos rfl, if_neg (fun q => c2 q.2)]; rfl
  · rw [if_neg c1, if_pos rfl, if_neg (fun q => c1 q.1)]; rfl
theorem fX11_page_ok {N S P : Nat} {le kn : Nat → Int} {il io : Nat → Bool} {sx sy : Nat → Nat → Int} {so : Nat → Nat} {co te : Nat → Int} {lt : Nat → Bool} {go : Nat → Nat → Nat} {m : dM} (hd : zDr N le kn) (hdc : zDc N le kn il io m) (hs : zSr N S sx sy) (hr : zPr N S P sx sy so co te lt go) (h : zPc N P sx sy so co te lt go m) {a b c : Int} (h1 : -2147483648 ≤ a) (h2 : a < 2147483648) (h3 : -2147483648 ≤ b) (h4 : b < 2147483648) (h5 : -2147483648 ≤ c) (h6 : c < 2147483648) : fX11_page m 0 (Int32.ofInt a) (Int32.ofInt b) (Int32.ofInt c) = if (0 ≤ a ∧ a < P) ∧ 0 ≤ b ∧ b < N then if 0 ≤ c ∧ c ≤ 3 then some (.inr (Int32.ofInt (zSay (zX sx so go a.toNat b.toNat) (zX sy so go a.toNat b.toNat) c.toNat), m)) else some (.inl (1, m)) else some (.inl (3, m)) := by
  have hP := hr.1
  have hN := hd.2.1
  unfold fX11_page
  rw [dg_ok kF, fX11_needPart_ok hr h h1 h2]
  by_cases c1 : 0 ≤ a ∧ a < P
  · obtain ⟨i, rfl⟩ := zi_nat c1.1
    rw [if_pos c1]
    simp only [Option.bind_some, dS]
    rw [fX11_needDot_ok hd hdc h3 h4]
    by_cases c2 : 0 ≤ b ∧ b < N
    · obtain ⟨d, rfl⟩ := zi_nat c2.1
      obtain ⟨b1, b2⟩ := zX_in hs hr (show i < P by omega) (show d < N by omega)
      obtain ⟨s1, s2, s3⟩ := kPst (show i < 12 by omega)
      rw [if_pos c2, if_pos ⟨c1, c2⟩]
      simp only [Option.bind_some]
      rw [show (0 : Int32) = Int32.ofInt 0 from rfl, show (3 : Int32) = Int32.ofInt 3 from rfl, fX11_needRange_ok m h5 h6 (by omega) (by omega) (by omega) (by omega), Int.toNat_natCast, Int.toNat_natCast]
      by_cases c3 : 0 ≤ c ∧ c ≤ 3
      · rw [if_pos c3, if_pos c3]
        simp only [Option.bind_some]
        unfold fX5_ends fX11_nearestLine fX11_nearestRow
        rw [fX8_numbered_ok (by omega), Option.bind_some, dg_ok (kPart (by omega)), dg_ok (kPart (by omega)), Option.bind_some, dg_ok s2.1, fX9_x_ok s2 (by omega), fX9_y_ok s2 (by omega), ((h.2 i (by omega)).2.2.2.2 d (by omega)).2.1, ((h.2 i (by omega)).2.2.2.2 d (by omega)).2.2.1]
        generalize zX sx so go i d = x at *
        generalize zX sy so go i d = y at *
        have e1 : Int32.ofInt x + 40 = Int32.ofInt (x + 40) := by rw [show (40 : Int32) = Int32.ofInt 40 from rfl, zi_add]
        have e2 : Int32.ofInt y + 140 - 1 = Int32.ofInt (y + 139) := by rw [show (140 : Int32) = Int32.ofInt 140 from rfl, show (1 : Int32) = Int32.ofInt 1 from rfl, zi_add, zi_sub]; congr 1; omega
        have e3 := fX11_downBy_ok m (a := x + 40) (b := 80) (by omega) (by omega) (by omega) (by omega)
        have e4 := fX11_downBy_ok m (a := y + 139) (b := 280) (by omega) (by omega) (by omega) (by omega)
        simp only [Option.bind_some, e1, e2, show (80 : Int32) = Int32.ofInt 80 from rfl, show (280 : Int32) = Int32.ofInt 280 from rfl, e3, e4, zi_mul, zi_sub]
        rcases (show c = 0 ∨ c = 1 ∨ c = 2 ∨ c = 3 by omega) with rfl | rfl | rfl | rfl
        · rw [if_pos (show Int32.ofInt 0 = Int32.ofInt 0 from rfl)]; rfl
        · rw [if_neg (show ¬ Int32.ofInt 1 = Int32.ofInt 0 by decide), if_pos (show Int32.ofInt 1 = 1 from rfl)]; rfl
        · rw [if_neg (show ¬ Int32.ofInt 2 = Int32.ofInt 0 by decide), if_neg (show ¬ Int32.ofInt 2 = 1 by decide), if_pos (show Int32.ofInt 2 = 2 from rfl)]; rfl
        · rw [if_neg (show ¬ Int32.ofInt 3 = Int32.ofInt 0 by decide), if_neg (show ¬ Int32.ofInt 3 = 1 by decide), if_neg (show ¬ Int32.ofInt 3 = 2 by decide)]; rfl
      · rw [if_neg c3, if_neg c3]; rfl
    · rw [if_neg c2, if_neg (fun q => c2 q.2)]; rfl
  · rw [if_neg c1, if_neg (fun q => c1 q.1)]; rfl
theorem fLaw_17_ok {xs : Nat → Int32} {nL : Nat} {i : Int32} {m : dM} (hI : zI m) (g1 : dIx (i + 1) nL = true) (g2 : dIx (i + 2) nL = true) (g3 : dIx (i + 3) nL = true) : ∃ m', fLaw_17 xs nL i m = some m' ∧ zI m' := by
  obtain ⟨a, a1, a2, ea⟩ := zi_of (xs (Int32.toNatClampNeg (i + 1)))
  obtain ⟨b, b1, b2, eb⟩ := zi_of (xs (Int32.toNatClampNeg (i + 2)))
  obtain ⟨c, c1, c2, ec⟩ := zi_of (xs (Int32.toNatClampNeg (i + 3)))
  have hI0 := hI
  obtain ⟨N, S, P, pp, le, kn, il, io, sx, sy, so, co, te, lt, go, px, py, lo, hi, cap, pen, h0, h1, h1m, h2, h3, h4, h5, h6, h7, h8, h9, h10, h11, h12, h13⟩ := hI0
  unfold fLaw_17 fL_page
  rw [ea, eb, ec]
  by_cases q : (0 ≤ a ∧ a < P) ∧ 0 ≤ b ∧ b < N
  · by_cases q2 : 0 ≤ c ∧ c ≤ 3
    · have fr : ∀ v, zDm N le kn il io (d2 m 463 0 v) ∧ zSm N S sx sy (d2 m 463 0 v) ∧ zPm N P so co te lt go (d2 m 463 0 v) := fun v => ⟨h1m, h4, h7⟩
      refine ⟨d1 (d2 m 463 0 (Int32.ofInt (zSay (zX sx so go a.toNat b.toNat) (zX sy so go a.toNat b.toNat) c.toNat)).toInt64) 444 25 0, ?_, hI.to (fun a h => by simp (disch := omega) only [zd1_ne, zd1_nk, zd2_1]) (fun k h => by simp (disch := omega) only [zd1_ne, zd1_nk, zd2_1])⟩
      simp (disch := omega) only [dg_ok g1, dg_ok kF, dg_ok kOut, dg_ok kL463, fX12_thrown_ok, Option.bind_some, dS, dP2, dlet, zcl0, zcmp, zd1_at, zd2_at, zd1_2, zd2_1, zd1_ne, zd1_nk, if_pos, if_neg, if_true, if_false, eq_self, zn10, zn20, zn30, zk13, zk31, zk21, zk23, zk12, zk32, dg_ok g2, dg_ok g3, fX11_page_ok h0 h1 h2 h5 h6, fX12_page_ok h0 (fr _).1 h2 (fr _).2.1 h5 (fr _).2.2]
    · refine ⟨d1 m 444 25 2, ?_, hI.to (fun a h => by simp (disch := omega) only [zd1_ne, zd1_nk, zd2_1]) (fun k h => by simp (disch := omega) only [zd1_ne, zd1_nk, zd2_1])⟩
      simp (disch := omega) only [dg_ok g1, dg_ok kF, dg_ok kOut, dg_ok kL463, fX12_thrown_ok, Option.bind_some, dS, dP2, dlet, zcl0, zcmp, zd1_at, zd2_at, zd1_2, zd2_1, zd1_ne, zd1_nk, if_pos, if_neg, if_true, if_false, eq_self, zn10, zn20, zn30, zk13, zk31, zk21, zk23, zk12, zk32, dg_ok g2, dg_ok g3, fX11_page_ok h0 h1 h2 h5 h6, fX12_page_ok h0 h1m h2 h4 h5 h7]
  · refine ⟨d1 m 444 25 1, ?_, hI.to (fun a h => by simp (disch := omega) only [zd1_ne, zd1_nk, zd2_1]) (fun k h => by simp (disch := omega) only [zd1_ne, zd1_nk, zd2_1])⟩
    simp (disch := omega) only [dg_ok g1, dg_ok kF, dg_ok kOut, dg_ok kL463, fX12_thrown_ok, Option.bind_some, dS, dP2, dlet, zcl0, zcmp, zd1_at, zd2_at, zd1_2, zd2_1, zd1_ne, zd1_nk, if_pos, if_neg, if_true, if_false, eq_self, zn10, zn20, zn30, zk13, zk31, zk21, zk23, zk12, zk32, dg_ok g2, dg_ok g3, fX11_page_ok h0 h1 h2 h5 h6, fX12_page_ok h0 h1m h2 h4 h5 h7]
