theorem kd449 : dL 449 = 120 := by decide +kernel
theorem kd450 : dL 450 = 120 := by decide +kernel
theorem kd451 : dL 451 = 12 := by decide +kernel
theorem kd455 : dL 455 = 120 := by decide +kernel
theorem zi_10 (i d : Nat) : (10 : Int32) * Int32.ofInt i + Int32.ofInt d = Int32.ofInt (10 * i + d : Nat) := by
  rw [show (10 : Int32) = Int32.ofInt 10 from rfl, zi_mul, zi_add]; congr 1
theorem fX12_endX_ok {N S P : Nat} {sx sy : Nat → Nat → Int} {so : Nat → Nat} {co te : Nat → Int} {lt : Nat → Bool} {go : Nat → Nat → Nat} {m : dM} (hN : N ≤ 10) (hs : zSr N S sx sy) (hm : zSm N S sx sy m) (hr : zPr N S P sx sy so co te lt go) (h : zPm N P so co te lt go m) {i d : Nat} (hi : i < P) (hd : d < N) : fX12_endX m 444 (Int32.ofInt i) (Int32.ofInt d) = some (Int32.ofInt (zX sx so go i d)) := by
  have hP := hr.1
  have hS := hs.1
  obtain ⟨r1, r2, r3, r4, r5, r6, r7⟩ := hr.2 i hi
  obtain ⟨c1, c2, c3, c4, c5⟩ := h.2 i hi
  have r8 := r7 d hd
  unfold fX12_endX
  rw [dg_ok kM, kd451, kd455, kd449, dg_ok (dIx_nat (by omega) (by decide)), zi_10, dg_ok (dIx_nat (by omega) (by decide)), zi_cn (by omega), zi_cn (by omega), c1, c5 d hd, zi_10, dg_ok (dIx_nat (by omega) (by decide)), zi_cn (by omega), (hm.2 (so i) r1 (go i d) r8).1]
  rfl
theorem fX12_endY_ok {N S P : Nat} {sx sy : Nat → Nat → Int} {so : Nat → Nat} {co te : Nat → Int} {lt : Nat → Bool} {go : Nat → Nat → Nat} {m : dM} (hN : N ≤ 10) (hs : zSr N S sx sy) (hm : zSm N S sx sy m) (hr : zPr N S P sx sy so co te lt go) (h : zPm N P so co te lt go m) {i d : Nat} (hi : i < P) (hd : d < N) : fX12_endY m 444 (Int32.ofInt i) (Int32.ofInt d) = some (Int32.ofInt (zX sy so go i d)) := by
  have hP := hr.1
  have hS := hs.1
  obtain ⟨r1, r2, r3, r4, r5, r6, r7⟩ := hr.2 i hi
  obtain ⟨c1, c2, c3, c4, c5⟩ := h.2 i hi
  have r8 := r7 d hd
  unfold fX12_endY
  rw [dg_ok kM, kd451, kd455, kd450, dg_ok (dIx_nat (by omega) (by decide)), zi_10, dg_ok (dIx_nat (by omega) (by decide)), zi_cn (by omega), zi_cn (by omega), c1, c5 d hd, zi_10, dg_ok (dIx_nat (by omega) (by decide)), zi_cn (by omega), (hm.2 (so i) r1 (go i d) r8).2]
  rfl
theorem zi_nz {i : Nat} (h : i < 2147483648) : (Int32.ofInt (i : Int) = 0) = (i = 0) := by
  rw [show (0 : Int32) = Int32.ofInt 0 from rfl, zi_eq (by omega) (by omega) (by omega) (by omega)]
  exact propext ⟨fun q => by omega, fun q => by omega⟩
theorem zi_pr {i : Nat} : Int32.ofInt ((i + 1 : Nat) : Int) - 1 = Int32.ofInt i := by
  rw [show (1 : Int32) = Int32.ofInt 1 from rfl, zi_sub]; congr 1; omega
theorem fX12_beginX_ok {N S P : Nat} {sx sy : Nat → Nat → Int} {so : Nat → Nat} {co te : Nat → Int} {lt : Nat → Bool} {go : Nat → Nat → Nat} {m : dM} (hN : N ≤ 10) (hs : zSr N S sx sy) (hm : zSm N S sx sy m) (hr : zPr N S P sx sy so co te lt go) (h : zPm N P so co te lt go m) {i d : Nat} (hi : i < P) (hd : d < N) : fX12_beginX m 444 (Int32.ofInt i) (Int32.ofInt d) = some (Int32.ofInt (zX sx so go (i - 1) d)) := by
  have hP := hr.1
  unfold fX12_beginX
  rw [dg_ok kM]
  simp only [zi_nz (show i < 2147483648 by omega)]
  rcases i with _ | i
  · rw [if_pos rfl, show (0 : Int32) = Int32.ofInt (0 : Nat) from rfl, fX12_endX_ok hN hs hm hr h hi hd]; rfl
  · rw [if_neg (by omega), zi_pr, fX12_endX_ok hN hs hm hr h (by omega) hd]; rfl
theorem fX12_beginY_ok {N S P : Nat} {sx sy : Nat → Nat → Int} {so : Nat → Nat} {co te : Nat → Int} {lt : Nat → Bool} {go : Nat → Nat → Nat} {m : dM} (hN : N ≤ 10) (hs : zSr N S sx sy) (hm : zSm N S sx sy m) (hr : zPr N S P sx sy so co te lt go) (h : zPm N P so co te lt go m) {i d : Nat} (hi : i < P) (hd : d < N) : fX12_beginY m 444 (Int32.ofInt i) (Int32.ofInt d) = some (Int32.ofInt (zX sy so go (i - 1) d)) := by
  have hP := hr.1
  unfold fX12_beginY
  rw [dg_ok kM]
  simp only [zi_nz (show i < 2147483648 by omega)]
  rcases i with _ | i
  · rw [if_pos rfl, show (0 : Int32) = Int32.ofInt (0 : Nat) from rfl, fX12_endY_ok hN hs hm hr h hi hd]; rfl
  · rw [if_neg (by omega), zi_pr, fX12_endY_ok hN hs hm hr h (by omega) hd]; rfl
theorem fX12_xAt_ok {N S P : Nat} {sx sy : Nat → Nat → Int} {so : Nat → Nat} {co te : Nat → Int} {lt : Nat → Bool} {go : Nat → Nat → Nat} {m : dM} (hN : N ≤ 10) (hs : zSr N S sx sy) (hm : zSm N S sx sy m) (hr : zPr N S P sx sy so co te lt go) (h : zPm N P so co te lt go m) {i d : Nat} (hi : i < P) (hd : d < N) {c : Int} (hc : 0 ≤ c) (hc' : c ≤ co i) : fX12_xAt m 444 (Int32.ofInt i) (Int32.ofInt c) (Int32.ofInt d) = some (Int32.ofInt (zOn (zX sx so go (i - 1) d) (zX sx so go i d) c (co i))) := by
  have hP := hr.1
  obtain ⟨r1, r2, r3, r4, r5, r6, r7⟩ := hr.2 i hi
  obtain ⟨c1, c2, c3, c4, c5⟩ := h.2 i hi
  obtain ⟨b1, b2⟩ := zX_in hs hr hi hd
  obtain ⟨b3, b4⟩ := zX_in hs hr (show i - 1 < P by omega) hd
  have bd := zmul_bd hc (show c ≤ 64 by omega) (show -1600 ≤ zX sx so go i d - zX sx so go (i - 1) d by omega) (by omega) (by decide)
  unfold fX12_xAt
  rw [dg_ok kM, fX12_beginX_ok hN hs hm hr h hi hd, Option.bind_some, fX12_endX_ok hN hs hm hr h hi hd, Option.bind_some, kd452, dg_ok (dIx_nat (by omega) (by decide)), zi_cn (by omega), c2]
  simp only [zi_sub, zi_mul]
  rw [fX12_down_ok m (by omega) (by omega) (by omega) (by omega)]
  simp only [Option.bind_some, zi_add]
  rfl
theorem fX12_yAt_ok {N S P : Nat} {sx sy : Nat → Nat → Int} {so : Nat → Nat} {co te : Nat → Int} {lt : Nat → Bool} {go : Nat → Nat → Nat} {m : dM} (hN : N ≤ 10) (hs : zSr N S sx sy) (hm : zSm N S sx sy m) (hr : zPr N S P sx sy so co te lt go) (h : zPm N P so co te lt go m) {i d : Nat} (hi : i < P) (hd : d < N) {c : Int} (hc : 0 ≤ c) (hc' : c ≤ co i) : fX12_yAt m 444 (Int32.ofInt i) (Int32.ofInt c) (Int32.ofInt d) = some (Int32.ofInt (zOn (zX sy so go (i - 1) d) (zX sy so go i d) c (co i))) := by
  have hP := hr.1
  obtain ⟨r1, r2, r3, r4, r5, r6, r7⟩ := hr.2 i hi
  obtain ⟨c1, c2, c3, c4, c5⟩ := h.2 i hi
  obtain ⟨b1, b2⟩ := zX_in hs hr hi hd
  obtain ⟨b3, b4⟩ := zX_in hs hr (show i - 1 < P by omega) hd
  have bd := zmul_bd hc (show c ≤ 64 by omega) (show -1600 ≤ zX sy so go i d - zX sy so go (i - 1) d by omega) (by omega) (by decide)
  unfold fX12_yAt
  rw [dg_ok kM, fX12_beginY_ok hN hs hm hr h hi hd, Option.bind_some, fX12_endY_ok hN hs hm hr h hi hd, Option.bind_some, kd452, dg_ok (dIx_nat (by omega) (by decide)), zi_cn (by omega), c2]
  simp only [zi_sub, zi_mul]
  rw [fX12_down_ok m (by omega) (by omega) (by omega) (by omega)]
  simp only [Option.bind_some, zi_add]
  rfl
/-! place, at, page -/
theorem fX11_place_ok {N S P : Nat} {le kn : Nat → Int} {il io : Nat → Bool} {sx sy : Nat → Nat → Int} {so : Nat → Nat} {co te : Nat → Int} {lt : Nat → Bool} {go : Nat → Nat → Nat} {m : dM} (hd : zDr N le kn) (hdc : zDc N le kn il io m) (hr : zPr N S P sx sy so co te lt go) (h : zPc N P sx sy so co te lt go m) {a b : Int} (h1 : -2147483648 ≤ a) (h2 : a < 2147483648) (h3 : -2147483648 ≤ b) (h4 : b < 2147483648) : fX11_place m 0 (Int32.ofInt a) (Int32.ofInt b) = if (0 ≤ a ∧ a < P) ∧ 0 ≤ b ∧ b < N then some (.inr (Int32.ofInt (go a.toNat b.toNat), m)) else some (.inl (3, m)) := by
  have hP := hr.1
  have hN := hd.2.1
  unfold fX11_place
  rw [dg_ok kF, fX11_needPart_ok hr h h1 h2]
  by_cases c1 : 0 ≤ a ∧ a < P
  · obtain ⟨i, rfl⟩ := zi_nat c1.1
    rw [if_pos c1]
    simp only [Option.bind_some, dS]
    rw [fX11_needDot_ok hd hdc h3 h4]
    by_cases c2 : 0 ≤ b ∧ b < N
    · obtain ⟨d, rfl⟩ := zi_nat c2.1
      rw [if_pos c2, if_pos ⟨c1, c2⟩]
      simp only [Option.bind_some]
      rw [fX8_numbered_ok (by omega), Option.bind_some, dg_ok (kPart (by omega))]
      unfold fX5_placeOf
      rw [dg_ok (kPart (by omega)), fX11_isInRow_nat m (by omega), Option.bind_some, if_neg z10, (kPst (show i < 12 by omega)).2.2, dg_ok (dIx_nat (by omega) (by decide)), zi_cn (by omega), ((h.2 i (by omega)).2.2.2.2 d (by omega)).1]
      rfl
    · rw [if_neg c2, if_neg (fun q => c2 q.2)]; rfl
  · rw [if_neg c1, if_neg (fun q => c1 q.1)]; rfl
theorem fX12_place_ok {N S P : Nat} {le kn : Nat → Int} {il io : Nat → Bool} {sx sy : Nat → Nat → Int} {so : Nat → Nat} {co te : Nat → Int} {lt : Nat → Bool} {go : Nat → Nat → Nat} {m : dM} (hd : zDr N le kn) (hdm : zDm N le kn il io m) (hr : zPr N S P sx sy so co te lt go) (h : zPm N P so co te lt go m) {a b : Int} (h1 : -2147483648 ≤ a) (h2 : a < 2147483648) (h3 : -2147483648 ≤ b) (h4 : b < 2147483648) : fX12_place m 444 (Int32.ofInt a) (Int32.ofInt b) = if (0 ≤ a ∧ a < P) ∧ 0 ≤ b ∧ b < N then some (Int32.ofInt (go a.toNat b.toNat), d1 m 444 25 0) else some (0, d1 m 444 25 1) := by
  have hP := hr.1
  have hN := hd.2.1
  unfold fX12_place
  rw [dg_ok kM, fX12_isPart_ok hr h h1 h2, Option.bind_some]
  by_cases c1 : 0 ≤ a ∧ a < P
  · obtain ⟨i, rfl⟩ := zi_nat c1.1
    rw [if_pos c1, if_neg z10, fX12_isDot_ok hd hdm h3 h4, Option.bind_some]
    by_cases c2 : 0 ≤ b ∧ b < N
    · obtain ⟨d, rfl⟩ := zi_nat c2.1
      rw [if_pos c2, if_neg z10, if_pos ⟨c1, c2⟩]
      simp only [dlet]
      rw [kd455, zi_10, dg_ok (dIx_nat (by omega) (by decide)), zi_cn (by omega), zd1_ne (by decide), (h.2 i (by omega)).2.2.2.2 d (by omega)]
      rfl
    · rw [if_neg c2, if_pos rfl, if_neg (fun q => c2 q.2)]; rfl
  · rw [if_neg c1, if_pos rfl, if_neg (fun q => c1 q.1)]; rfl
theorem fLaw_10_ok {xs : Nat → Int32} {nL : Nat} {i : Int32} {m : dM} (hI : zI m) (g1 : dIx (i + 1) nL = true) (g2 : dIx (i + 2) nL = true) : ∃ m', fLaw_10 xs nL i m = some m' ∧ zI m' := by
  obtain ⟨a, a1, a2, ea⟩ := zi_of (xs (Int32.toNatClampNeg (i + 1)))
  obtain ⟨b, b1, b2, eb⟩ := zi_of (xs (Int32.toNatClampNeg (i + 2)))
  have hI0 := hI
  obtain ⟨N, S, P, pp, le, kn, il, io, sx, sy, so, co, te, lt, go, px, py, lo, hi, cap, pen, h0, h1, h1m, h2, h3, h4, h5, h6, h7, h8, h9, h10, h11, h12, h13⟩ := hI0
  unfold fLaw_10 fL_place
  rw [ea, eb]
  by_cases c : (0 ≤ a ∧ a < P) ∧ 0 ≤ b ∧ b < N
  · refine ⟨d1 (d2 m 463 0 (Int32.ofInt (go a.toNat b.toNat)).toInt64) 444 25 0, ?_, hI.to (fun a h => by simp (disch := omega) only [zd1_ne, zd1_nk, zd2_1]) (fun k h => by simp (disch := omega) only [zd1_ne, zd1_nk, zd2_1])⟩
    have h1n : zDm N le kn il io (d2 m 463 0 (Int32.ofInt (go a.toNat b.toNat)).toInt64) := h1m
    have h7n : zPm N P so co te lt go (d2 m 463 0 (Int32.ofInt (go a.toNat b.toNat)).toInt64) := h7
    simp (disch := omega) only [dg_ok g1, dg_ok kF, dg_ok kOut, dg_ok kL463, fX12_thrown_ok, Option.bind_some, dS, dP2, dlet, zcl0, zcmp, zd1_at, zd2_at, zd1_2, zd2_1, zd1_ne, zd1_nk, if_pos, if_neg, if_true, if_false, eq_self, zn10, zn20, zn30, zk13, zk31, zk21, zk23, zk12, zk32, dg_ok g2, fX11_place_ok h0 h1 h5 h6, fX12_place_ok h0 h1n h5 h7n]
  · refine ⟨d1 m 444 25 1, ?_, hI.to (fun a h => by simp (disch := omega) only [zd1_ne, zd1_nk, zd2_1]) (fun k h => by simp (disch := omega) only [zd1_ne, zd1_nk, zd2_1])⟩
    simp (disch := omega) only [dg_ok g1, dg_ok kF, dg_ok kOut, dg_ok kL463, fX12_thrown_ok, Option.bind_some, dS, dP2, dlet, zcl0, zcmp, zd1_at, zd2_at, zd1_2, zd2_1, zd1_ne, zd1_nk, if_pos, if_neg, if_true, if_false, eq_self, zn10, zn20, zn30, zk13, zk31, zk21, zk23, zk12, zk32, dg_ok g2, fX11_place_ok h0 h1 h5 h6, fX12_place_ok h0 h1m h5 h7]
/-- what 'at' answers -/
def zAt (sx sy : Nat → Nat → Int) (so : Nat → Nat) (co : Nat → Int) (go : Nat → Nat → Nat) (i d : Nat) (c : Int) : Int := 2000 * zOn (zX sx so go (i - 1) d) (zX sx so go i d) c (co i) + zOn (zX sy so go (i - 1) d) (zX sy so go i d) c (co i)
theorem fX11_at_ok {N S P : Nat} {le kn : Nat → Int} {il io : Nat → Bool} {sx sy : Nat → Nat → Int} {so : Nat → Nat} {co te : Nat → Int} {lt : Nat → Bool} {go : Nat → Nat → Nat} {m : dM} (hd : zDr N le kn) (hdc : zDc N le kn il io m) (hs : zSr N S sx sy) (hr : zPr N S P sx sy so co te lt go) (h : zPc N P sx sy so co te lt go m) {a b c : Int} (h1 : -2147483648 ≤ a) (h2 : a < 2147483648) (h3 : -2147483648 ≤ b) (h4 : b < 2147483648) (h5 : -2147483648 ≤ c) (h6 : c < 2147483648) : fX11_at m 0 (Int32.ofInt a) (Int32.ofInt c) (Int32.ofInt b) = if (0 ≤ a ∧ a < P) ∧ 0 ≤ b ∧ b < N then if 0 ≤ c ∧ c ≤ co a.toNat then some (.inr (Int32.ofInt (zAt sx sy so co go a.toNat b.toNat c), m)) else some (.inl (1, m)) else some (.inl (3, m)) := by
  have hP := hr.1
  have hN := hd.2.1
  unfold fX11_at
  rw [dg_ok kF, fX11_needPart_ok hr h h1 h2]
  by_cases c1 : 0 ≤ a ∧ a < P
  · obtain ⟨i, rfl⟩ := zi_nat c1.1
    rw [if_pos c1]
    simp only [Option.bind_some, dS]
    rw [fX11_needDot_ok hd hdc h3 h4]
    by_cases c2 : 0 ≤ b ∧ b < N
    · obtain ⟨d, rfl⟩ := zi_nat c2.1
      obtain ⟨r1, r2, r3, r4, r5, r6, r7⟩ := hr.2 i (by omega)
      rw [if_pos c2, if_pos ⟨c1, c2⟩]
      simp only [Option.bind_some]
      rw [fX8_numbered_ok (by omega), Option.bind_some, dg_ok (kPart (by omega))]
      unfold fX5_counts
      rw [dg_ok (kPart (by omega)), (h.2 i (by omega)).2.1, Option.bind_some, show (0 : Int32) = Int32.ofInt 0 from rfl, fX11_needRange_ok m h5 h6 (by omega) (by omega) (by omega) (by omega), Int.toNat_natCast, Int.toNat_natCast]
      by_cases c3 : 0 ≤ c ∧ c ≤ co i
      · rw [if_pos c3, if_pos c3]
        simp only [Option.bind_some]
        rw [fX5_xOf_ok hN hs hr h (by omega) (by omega) c3.1 c3.2, fX5_yOf_ok hN hs hr h (by omega) (by omega) c3.1 c3.2]
        simp only [Option.bind_some]
        rw [show (2000 : Int32) = Int32.ofInt 2000 from rfl, zi_mul, zi_add]
        rfl
      · rw [if_neg c3, if_neg c3]; rfl
    · rw [if_neg c2, if_neg (fun q => c2 q.2)]; rfl
  · rw [if_neg c1, if_neg (fun q => c1 q.1)]; rfl
theorem fX12_at_ok {N S P : Nat} {le kn : Nat → Int} {il io : Nat → Bool} {sx sy : Nat → Nat → Int} {so : Nat → Nat} {co te : Nat → Int} {lt : Nat → Bool} {go : Nat → Nat → Nat} {m : dM} (hd : zDr N le kn) (hdm : zDm N le kn il io m) (hs : zSr N S sx sy) (hm : zSm N S sx sy m) (hr : zPr N S P sx sy so co te lt go) (h : zPm N P so co te lt go m) {a b c : Int} (h1 : -2147483648 ≤ a) (h2 : a < 2147483648) (h3 : -2147483648 ≤ b) (h4 : b < 2147483648) (h5 : -2147483648 ≤ c) (h6 : c < 2147483648) : fX12_at m 444 (Int32.ofInt a) (Int32.ofInt c) (Int32.ofInt b) = if (0 ≤ a ∧ a < P) ∧ 0 ≤ b ∧ b < N then if 0 ≤ c ∧ c ≤ co a.toNat then some (Int32.ofInt (zAt sx sy so co go a.toNat b.toNat c), d1 m 444 25 0) else some (0, d1 m 444 25 2) else some (0, d1 m 444 25 1) := by
  have hP := hr.1
  have hN := hd.2.1
  unfold fX12_at
  rw [dg_ok kM, fX12_isPart_ok hr h h1 h2, Option.bind_some]
  by_cases c1 : 0 ≤ a ∧ a < P
  · obtain ⟨i, rfl⟩ := zi_nat c1.1
    obtain ⟨r1, r2, r3, r4, r5, r6, r7⟩ := hr.2 i (by omega)
    rw [if_pos c1, if_neg z10, fX12_isDot_ok hd hdm h3 h4, Option.bind_some]
    by_cases c2 : 0 ≤ b ∧ b < N
    · obtain ⟨d, rfl⟩ := zi_nat c2.1
      have e := fX12_isIn_ok m h5 h6 (show (-2147483648 : Int) ≤ 0 by decide) (show (0 : Int) < 2147483648 by decide) (show -2147483648 ≤ co i by omega) (show co i < 2147483648 by omega)
      rw [show (Int32.ofInt 0) = (0 : Int32) from rfl] at e
      rw [if_pos c2, if_neg z10, if_pos ⟨c1, c2⟩, kd452, dg_ok (dIx_nat (by omega) (by decide)), zi_cn (by omega), (h.2 i (by omega)).2.1, e, Option.bind_some, Int.toNat_natCast, Int.toNat_natCast]
      by_cases c3 : 0 ≤ c ∧ c ≤ co i
      · rw [if_pos c3, if_neg z10, if_pos c3]
        have h7n : zPm N P so co te lt go (d1 m 444 25 0) := h.to (fun a q1 q2 => by simp (disch := omega) only [zd1_ne, zd1_nk, zd2_1]) (by simp (disch := omega) only [zd1_ne, zd1_nk, zd2_1])
        have hmn : zSm N S sx sy (d1 m 444 25 0) := hm.to (fun a q1 q2 => by simp (disch := omega) only [zd1_ne, zd1_nk, zd2_1]) (by simp (disch := omega) only [zd1_ne, zd1_nk, zd2_1])
        simp only [dlet]
        rw [fX12_xAt_ok hN hs hmn hr h7n (by omega) (by omega) c3.1 c3.2, fX12_yAt_ok hN hs hmn hr h7n (by omega) (by omega) c3.1 c3.2]
        simp only [Option.bind_some]
        rw [show (2000 : Int32) = Int32.ofInt 2000 from rfl, zi_mul, zi_add]
        rfl
      · rw [if_neg c3, if_pos rfl, if_neg c3]; rfl
    · rw [if_neg c2, if_pos rfl, if_neg (fun q => c2 q.2)]; rfl
  · rw [if_neg c1, if_pos rfl, if_neg (fun q => c1 q.1)]; rfl
theorem fLaw_12_ok {xs : Nat → Int32} {nL : Nat} {i : Int32} {m : dM} (hI : zI m) (g1 : dIx (i + 1) nL = true) (g2 : dIx (i + 2) nL = true) (g3 : dIx (i + 3) nL = true) : ∃ m', fLaw_12 xs nL i m = some m' ∧ zI m' := by
  obtain ⟨a, a1, a2, ea⟩ := zi_of (xs (Int32.toNatClampNeg (i + 1)))
  obtain ⟨c, c1, c2, ec⟩ := zi_of (xs (Int32.toNatClampNeg (i + 2)))
  obtain ⟨b, b1, b2, eb⟩ := zi_of (xs (Int32.toNatClampNeg (i + 3)))
  have hI0 := hI
  obtain ⟨N, S, P, pp, le, kn, il, io, sx, sy, so, co, te, lt, go, px, py, lo, hi, cap, pen, h0, h1, h1m, h2, h3, h4, h5, h6, h7, h8, h9, h10, h11, h12, h13⟩ := hI0
  unfold fLaw_12 fL_at
  rw [ea, eb, ec]
  by_cases q : (0 ≤ a ∧ a < P) ∧ 0 ≤ b ∧ b < N
  · by_cases q2 : 0 ≤ c ∧ c ≤ co a.toNat
    · refine ⟨d1 (d2 m 463 0 (Int32.ofInt (zAt sx sy so co go a.toNat b.toNat c)).toInt64) 444 25 0, ?_, hI.to (fun a h => by simp (disch := omega) only [zd1_ne, zd1_nk, zd2_1]) (fun k h => by simp (disch := omega) only [zd1_ne, zd1_nk, zd2_1])⟩
      have h1n : zDm N le kn il io (d2 m 463 0 (Int32.ofInt (zAt sx sy so co go a.toNat b.toNat c)).toInt64) := h1m
      have h4n : zSm N S sx sy (d2 m 463 0 (Int32.ofInt (zAt sx sy so co go a.toNat b.toNat c)).toInt64) := h4
      have h7n : zPm N P so co te lt go (d2 m 463 0 (Int32.ofInt (zAt sx sy so co go a.toNat b.toNat c)).toInt64) := h7
      simp (disch := omega) only [dg_ok g1, dg_ok kF, dg_ok kOut, dg_ok kL463, fX12_thrown_ok, Option.bind_some, dS, dP2, dlet, zcl0, zcmp, zd1_at, zd2_at, zd1_2, zd2_1, zd1_ne, zd1_nk, if_pos, if_neg, if_true, if_false, eq_self, zn10, zn20, zn30, zk13, zk31, zk21, zk23, zk12, zk32, dg_ok g2, dg_ok g3, fX11_at_ok h0 h1 h2 h5 h6, fX12_at_ok h0 h1n h2 h4n h5 h7n]
    · refine ⟨d1 m 444 25 2, ?_, hI.to (fun a h => by simp (disch := omega) only [zd1_ne, zd1_nk, zd2_1]) (fun k h => by simp (disch := omega) only [zd1_ne, zd1_nk, zd2_1])⟩
      simp (disch := omega) only [dg_ok g1, dg_ok kF, dg_ok kOut, dg_ok kL463, fX12_thrown_ok, Option.bind_some, dS, dP2, dlet, zcl0, zcmp, zd1_at, zd2_at, zd1_2, zd2_1, zd1_ne, zd1_nk, if_pos, if_neg, if_true, if_false, eq_self, zn10, zn20, zn30, zk13, zk31, zk21, zk23, zk12, zk32, dg_ok g2, dg_ok g3, fX11_at_ok h0 h1 h2 h5 h6, fX12_at_ok h0 h1m h2 h4 h5 h7]
  · refine ⟨d1 m 444 25 1, ?_, hI.to (fun a h => by simp (disch := omega) only [zd1_ne, zd1_nk, zd2_1]) (fun k h => by simp (disch := omega) only [zd1_ne, zd1_nk, zd2_1])⟩
    simp (disch := omega) only [dg_ok g1, dg_ok kF, dg_ok kOut, dg_ok kL463, fX12_thrown_ok, Option.bind_some, dS, dP2, dlet, zcl0, zcmp, zd1_at, zd2_at, zd1_2, zd2_1, zd1_ne, zd1_nk, if_pos, if_neg, if_true, if_false, eq_self, zn10, zn20, zn30, zk13, zk31, zk21, zk23, zk12, zk32, dg_ok g2, dg_ok g3, fX11_at_ok h0 h1 h2 h5 h6, fX12_at_ok h0 h1m h2 h4 h5 h7]
