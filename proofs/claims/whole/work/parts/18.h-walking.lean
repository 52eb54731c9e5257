/-! walking -/
theorem zSq_in {a b c d : Int} (h1 : 0 ≤ a) (h2 : a ≤ 1600) (h3 : 0 ≤ b) (h4 : b ≤ 1600) (h5 : 0 ≤ c) (h6 : c ≤ 1600) (h7 : 0 ≤ d) (h8 : d ≤ 1600) : 0 ≤ zSq a b c d ∧ zSq a b c d ≤ 5120000 := by
  unfold zSq
  have q : ∀ e : Int, -1600 ≤ e → e ≤ 1600 → 0 ≤ e * e ∧ e * e ≤ 2560000 := by
    intro e q1 q2
    rcases Int.lt_or_le e 0 with q | q
    · have := zmul_bd (c := -e) (e := -e) (n := 1600) (M := 1600) (by omega) (by omega) (by omega) (by omega) (by decide)
      have e1 : -e * -e = e * e := by grind
      have := Int.mul_nonneg (show 0 ≤ -e by omega) (show 0 ≤ -e by omega)
      omega
    · have := zmul_bd (c := e) (e := e) (n := 1600) (M := 1600) q q2 (by omega) (by omega) (by decide)
      have := Int.mul_nonneg q q
      omega
  have a1 := q (a - c) (by omega) (by omega)
  have a2 := q (b - d) (by omega) (by omega)
  omega
theorem zSq_sym (a b c d : Int) : zSq a b c d = zSq c d a b := by unfold zSq; grind
def zWk (sx sy : Nat → Nat → Int) (so : Nat → Nat) (go : Nat → Nat → Nat) (i N : Nat) : Int := zSum (fun d => zSq (zX sx so go i d) (zX sy so go i d) (zX sx so go (i - 1) d) (zX sy so go (i - 1) d)) N
theorem fX5_squaresOfWays_ok {N S P : Nat} {sx sy : Nat → Nat → Int} {so : Nat → Nat} {co te : Nat → Int} {lt : Nat → Bool} {go : Nat → Nat → Nat} {m : dM} (hN : N ≤ 10) (hs : zSr N S sx sy) (hr : zPr N S P sx sy so co te lt go) (h : zPc N P sx sy so co te lt go m) {i : Nat} (hi : i < P) : fX5_squaresOfWays m (49 + 8 * i) (Int32.ofInt N) = some (Int64.ofInt (zWk sx sy so go i N)) := by
  have hP := hr.1
  obtain ⟨c1, c2, c3, c4, c5⟩ := h.2 i hi
  obtain ⟨s1, s2, s3⟩ := kPst (show i < 12 by omega)
  unfold fX5_squaresOfWays
  have e := dlp_for (f := fun q => dP2 q (fun v2 v3 => fX5_squaresOfWays_l5 m (49 + 8 * i) (Int32.ofInt N) v2 v3)) (r := Int64.ofInt (zWk sx sy so go i N)) (fun k => (Int32.ofInt (k : Int), Int64.ofInt (zWk sx sy so go i k))) N 0 N dFl (by omega) (by show N < 100000; omega) (fun k _ hk => by
    show fX5_squaresOfWays_l5 m (49 + 8 * i) (Int32.ofInt N) (Int32.ofInt (k : Int)) (Int64.ofInt (zWk sx sy so go i k)) = _
    unfold fX5_squaresOfWays_l5
    have e1 : ¬ (Int32.ofInt (N : Int) ≤ Int32.ofInt (k : Int)) := by rw [zi_le (by omega) (by omega) (by omega) (by omega)]; omega
    obtain ⟨b1, b2⟩ := zX_in hs hr hi hk
    obtain ⟨b3, b4⟩ := zX_in hs hr (show i - 1 < P by omega) hk
    have bd := zSq_in (a := zX sx so go i k) (b := zX sy so go i k) (c := zX sx so go (i - 1) k) (d := zX sy so go (i - 1) k) (by omega) (by omega) (by omega) (by omega) (by omega) (by omega) (by omega) (by omega)
    rw [if_neg e1, fX9_squareTo_ok s1 s2 (by omega) (by omega), (c5 k hk).2.1, (c5 k hk).2.2.1, (c5 k hk).2.2.2.1, (c5 k hk).2.2.2.2, Option.bind_some]
    simp only [zi_sub, zi_mul, zi_add]
    have e2 : (zX sx so go (i - 1) k - zX sx so go i k) * (zX sx so go (i - 1) k - zX sx so go i k) + (zX sy so go (i - 1) k - zX sy so go i k) * (zX sy so go (i - 1) k - zX sy so go i k) = zSq (zX sx so go i k) (zX sy so go i k) (zX sx so go (i - 1) k) (zX sy so go (i - 1) k) := by unfold zSq; grind
    rw [e2, zi_j (by omega) (by omega), show (1 : Int32) = Int32.ofInt 1 from rfl]
    simp only [dlet, zj_add, zi_add]
    rfl) (by
    show fX5_squaresOfWays_l5 m (49 + 8 * i) (Int32.ofInt N) (Int32.ofInt (N : Int)) (Int64.ofInt (zWk sx sy so go i N)) = _
    unfold fX5_squaresOfWays_l5
    rw [if_pos (Int32.le_refl _)])
  rw [dg_ok (kPart (by omega)), show ((0 : Int32), (0 : Int64)) = (Int32.ofInt ((0 : Nat) : Int), Int64.ofInt (zWk sx sy so go i 0)) from rfl, e]
  rfl
theorem fX12_way_ok {N S P : Nat} {sx sy : Nat → Nat → Int} {so : Nat → Nat} {co te : Nat → Int} {lt : Nat → Bool} {go : Nat → Nat → Nat} {m : dM} (hN : N ≤ 10) (hs : zSr N S sx sy) (hm : zSm N S sx sy m) (hr : zPr N S P sx sy so co te lt go) (h : zPm N P so co te lt go m) {i d p : Nat} (hi : i < P) (hd : d < N) (hp : p < N) : fX12_way m 444 (Int32.ofInt i) (Int32.ofInt d) (Int32.ofInt p) = some (Int64.ofInt (zW sx sy so go i d p)) := by
  have hP := hr.1
  have hS := hs.1
  obtain ⟨r1, r2, r3, r4, r5, r6, r7⟩ := hr.2 i hi
  obtain ⟨c1, c2, c3, c4, c5⟩ := h.2 i hi
  obtain ⟨b3, b4⟩ := zX_in hs hr (show i - 1 < P by omega) hd
  obtain ⟨b5, b6, b7, b8⟩ := hs.2 (so i) r1 p hp
  unfold fX12_way fX12_square
  rw [dg_ok kM, kd451, kd449, kd450, dg_ok (dIx_nat (by omega) (by decide)), zi_cn (by omega), c1, zi_10, dg_ok (dIx_nat (by omega) (by decide)), fX12_beginX_ok hN hs hm hr h hi hd, Option.bind_some, dg_ok (dIx_nat (by omega) (by decide)), dg_ok (dIx_nat (by omega) (by decide)), fX12_beginY_ok hN hs hm hr h hi hd, Option.bind_some, zi_cn (by omega), (hm.2 (so i) r1 p hp).1, (hm.2 (so i) r1 p hp).2, Option.bind_some]
  rw [zi_sub, zi_sub, zi_j (by omega) (by omega), zi_j (by omega) (by omega), zj_mul, zj_mul, zj_add]
  rfl
theorem fX11_walking_ok {N S P : Nat} {le kn : Nat → Int} {il io : Nat → Bool} {sx sy : Nat → Nat → Int} {so : Nat → Nat} {co te : Nat → Int} {lt : Nat → Bool} {go : Nat → Nat → Nat} {m : dM} (hd : zDr N le kn) (hdc : zDc N le kn il io m) (hs : zSr N S sx sy) (hr : zPr N S P sx sy so co te lt go) (h : zPc N P sx sy so co te lt go m) {a : Int} (h1 : -2147483648 ≤ a) (h2 : a < 2147483648) : fX11_walking m 0 (Int32.ofInt a) = if 0 ≤ a ∧ a < P then some (.inr (Int64.ofInt (zWk sx sy so go a.toNat N), m)) else some (.inl (3, m)) := by
  have hP := hr.1
  unfold fX11_walking fX1_number
  rw [dg_ok kF, fX11_needPart_ok hr h h1 h2]
  by_cases c1 : 0 ≤ a ∧ a < P
  · obtain ⟨i, rfl⟩ := zi_nat c1.1
    rw [if_pos c1, if_pos c1]
    simp only [Option.bind_some, dS]
    rw [fX8_numbered_ok (by omega), Option.bind_some, dg_ok (kPart (by omega)), dg_ok kDots, hdc.1, Option.bind_some, fX5_squaresOfWays_ok hd.2.1 hs hr h (by omega), Int.toNat_natCast]
    rfl
  · rw [if_neg c1, if_neg c1]; rfl
theorem fX12_walking_ok {N S P : Nat} {le kn : Nat → Int} {il io : Nat → Bool} {sx sy : Nat → Nat → Int} {so : Nat → Nat} {co te : Nat → Int} {lt : Nat → Bool} {go : Nat → Nat → Nat} {m0 : dM} (hd : zDr N le kn) (hdm0 : zDm N le kn il io m0) (hs : zSr N S sx sy) (hm0 : zSm N S sx sy m0) (hr : zPr N S P sx sy so co te lt go) (h0 : zPm N P so co te lt go m0) {a : Int} (h1 : -2147483648 ≤ a) (h2 : a < 2147483648) : ∃ v, fX12_walking m0 444 (Int32.ofInt a) = some (v, d1 m0 444 25 (if 0 ≤ a ∧ a < P then 0 else 1)) ∧ (0 ≤ a ∧ a < P → v = Int64.ofInt (zWk sx sy so go a.toNat N)) := by
  have hP := hr.1
  have hN := hd.2.1
  unfold fX12_walking
  rw [dg_ok kM, fX12_isPart_ok hr h0 h1 h2, Option.bind_some]
  by_cases c1 : 0 ≤ a ∧ a < P
  · obtain ⟨i, rfl⟩ := zi_nat c1.1
    rw [if_pos c1, if_neg z10, if_pos c1]
    have hr7 := (hr.2 i (by omega)).2.2.2.2.2.2
    simp only [dlet]
    have h : zPm N P so co te lt go (d1 m0 444 25 0) := h0.to (fun a q1 q2 => by simp (disch := omega) only [zd1_ne, zd1_nk, zd2_1]) (by simp (disch := omega) only [zd1_ne, zd1_nk, zd2_1])
    have hm : zSm N S sx sy (d1 m0 444 25 0) := hm0.to (fun a q1 q2 => by simp (disch := omega) only [zd1_ne, zd1_nk, zd2_1]) (by simp (disch := omega) only [zd1_ne, zd1_nk, zd2_1])
    have hdm : zDm N le kn il io (d1 m0 444 25 0) := hdm0.to (fun a q1 q2 => by simp (disch := omega) only [zd1_ne, zd1_nk, zd2_1]) (by simp (disch := omega) only [zd1_ne, zd1_nk, zd2_1])
    have ht : (d1 m0 444 25 0).1 444 25 = 0 := zd1_at
    generalize d1 m0 444 25 0 = m at *
    have e := dlp_for (f := fun q => dP2 q (fun v18 v19 => fX12_walking_l22_2 444 (Int32.ofInt i) m v18 v19)) (r := Int64.ofInt (zWk sx sy so go i N)) (fun k => (Int32.ofInt (k : Int), Int64.ofInt (zWk sx sy so go i k))) N 0 N dFl (by omega) (by show N < 100000; omega) (fun k _ hk => by
      show fX12_walking_l22_2 444 (Int32.ofInt i) m (Int32.ofInt (k : Int)) (Int64.ofInt (zWk sx sy so go i k)) = _
      unfold fX12_walking_l22_2
      have e1 : ¬ (Int32.ofInt (N : Int) ≤ Int32.ofInt (k : Int)) := by rw [zi_le (by omega) (by omega) (by omega) (by omega)]; omega
      rw [hdm.1, if_neg e1, if_pos ht, kd455, zi_10, dg_ok (dIx_nat (by omega) (by decide)), zi_cn (by omega), (h.2 i (by omega)).2.2.2.2 k hk, fX12_way_ok hN hs hm hr h (by omega) hk (hr7 k hk), Option.bind_some, show (1 : Int32) = Int32.ofInt 1 from rfl]
      simp only [dlet, zj_add, zi_add]
      rfl) (by
      show fX12_walking_l22_2 444 (Int32.ofInt i) m (Int32.ofInt (N : Int)) (Int64.ofInt (zWk sx sy so go i N)) = _
      unfold fX12_walking_l22_2
      rw [hdm.1, if_pos (Int32.le_refl _)])
    refine ⟨Int64.ofInt (zWk sx sy so go i N), ?_, fun _ => by rw [Int.toNat_natCast]⟩
    rw [show ((0 : Int32), (0 : Int64)) = (Int32.ofInt ((0 : Nat) : Int), Int64.ofInt (zWk sx sy so go i 0)) from rfl, e]
    rfl
  · rw [if_neg c1, if_pos rfl, if_neg c1]
    simp only [dlet]
    have hdm : zDm N le kn il io (d1 m0 444 25 1) := hdm0.to (fun a q1 q2 => by simp (disch := omega) only [zd1_ne, zd1_nk, zd2_1]) (by simp (disch := omega) only [zd1_ne, zd1_nk, zd2_1])
    refine ⟨0, ?_, fun q => absurd q c1⟩
    have s : fX12_walking_l22 444 (Int32.ofInt a) (d1 m0 444 25 1) 0 0 = some (.inr 0) := by
      have hN2 := hd.1
      unfold fX12_walking_l22
      have e1 : ¬ (Int32.ofInt (N : Int) ≤ 0) := by rw [show (0 : Int32) = Int32.ofInt 0 from rfl, zi_le (by omega) (by omega) (by omega) (by omega)]; omega
      rw [hdm.1, if_neg e1, zd1_at, if_neg z10]
    rw [show dFl = 99999 + 1 from rfl, dlp2 (r := (0 : Int64)) (show (fun q => dP2 q (fun v5 v6 => fX12_walking_l22 444 (Int32.ofInt a) (d1 m0 444 25 1) v5 v6)) ((0 : Int32), (0 : Int64)) = some (.inr 0) from s)]
    rfl
theorem fLaw_11_ok {xs : Nat → Int32} {nL : Nat} {i : Int32} {m : dM} (hI : zI m) (g1 : dIx (i + 1) nL = true) : ∃ m', fLaw_11 xs nL i m = some m' ∧ zI m' := by
  obtain ⟨a, a1, a2, ea⟩ := zi_of (xs (Int32.toNatClampNeg (i + 1)))
  have hI0 := hI
  obtain ⟨N, S, P, pp, le, kn, il, io, sx, sy, so, co, te, lt, go, px, py, lo, hi, cap, pen, h0, h1, h1m, h2, h3, h4, h5, h6, h7, h8, h9, h10, h11, h12, h13⟩ := hI0
  unfold fLaw_11 fL_walking
  rw [ea]
  by_cases c : 0 ≤ a ∧ a < P
  · have fr : ∀ v, zDm N le kn il io (d2 m 463 0 v) ∧ zSm N S sx sy (d2 m 463 0 v) ∧ zPm N P so co te lt go (d2 m 463 0 v) := fun v => ⟨h1m, h4, h7⟩
    obtain ⟨v, Y, hv⟩ := fX12_walking_ok h0 (fr (Int64.ofInt (zWk sx sy so go a.toNat N))).1 h2 (fr _).2.1 h5 (fr _).2.2 a1 a2
    rw [hv c, if_pos c] at Y
    refine ⟨d1 (d2 m 463 0 (Int64.ofInt (zWk sx sy so go a.toNat N))) 444 25 0, ?_, hI.to (fun a h => by simp (disch := omega) only [zd1_ne, zd1_nk, zd2_1]) (fun k h => by simp (disch := omega) only [zd1_ne, zd1_nk, zd2_1])⟩
    simp (disch := omega) only [dg_ok g1, dg_ok kF, dg_ok kOut, dg_ok kL463, fX12_thrown_ok, Option.bind_some, dS, dP2, dlet, zcl0, zcmp, zd1_at, zd2_at, zd1_2, zd2_1, zd1_ne, zd1_nk, if_pos, if_neg, if_true, if_false, eq_self, zn10, zn20, zn30, zk13, zk31, zk21, zk23, zk12, zk32, fX11_walking_ok h0 h1 h2 h5 h6, Y]
  · obtain ⟨v, Y, hv⟩ := fX12_walking_ok h0 h1m h2 h4 h5 h7 a1 a2
    rw [if_neg c] at Y
    refine ⟨d1 m 444 25 1, ?_, hI.to (fun a h => by simp (disch := omega) only [zd1_ne, zd1_nk, zd2_1]) (fun k h => by simp (disch := omega) only [zd1_ne, zd1_nk, zd2_1])⟩
    simp (disch := omega) only [dg_ok g1, dg_ok kF, dg_ok kOut, dg_ok kL463, fX12_thrown_ok, Option.bind_some, dS, dP2, dlet, zcl0, zcmp, zd1_at, zd2_at, zd1_2, zd2_1, zd1_ne, zd1_nk, if_pos, if_neg, if_true, if_false, eq_self, zn10, zn20, zn30, zk13, zk31, zk21, zk23, zk12, zk32, fX11_walking_ok h0 h1 h2 h5 h6, Y]
