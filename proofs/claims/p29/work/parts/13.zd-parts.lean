theorem kPart {i : Nat} (h : i < 12) : dkg (49 + 8 * i) 6 = true := by
  have : ∀ i : Fin 12, dkg (49 + 8 * i.val) 6 = true := by decide +kernel
  exact this ⟨i, h⟩
theorem kd48 : dL 48 = 12 := by decide +kernel
theorem fX8_numbered_ok {m : dM} {i : Nat} (h : i < 12) : fX8_numbered m 47 (Int32.ofInt i) = some (49 + 8 * i) := by
  unfold fX8_numbered
  rw [dg_ok kShow, show (0 : Int32) = Int32.ofInt 0 from rfl, show (11 : Int32) = Int32.ofInt 11 from rfl, fX11_isWithin_ok m (by omega) (by omega) (by omega) (by omega) (by omega) (by omega), if_pos (by omega), Option.bind_some, if_neg (by decide), kd48, zi_cn (by omega), dg_ok (dIx_nat h (by decide)), dg_ok (kPart h), dg_ok (dIx_nat h (by decide)), dg_ok (kPart h)]
/-- how long the show lasts -/
def zTime (co te : Nat → Int) (P : Nat) : Int := zSum (fun i => co i * 600 / te i) P
theorem zTime_le {co te : Nat → Int} : ∀ P : Nat, (∀ i, i < P → 1 ≤ co i ∧ co i ≤ 64 ∧ 60 ≤ te i) → 0 ≤ zTime co te P ∧ zTime co te P ≤ 640 * P
  | 0, _ => ⟨Int.le_refl 0, Int.le_refl 0⟩
  | P + 1, h => by
    have h1 := zTime_le P (fun i hi => h i (by omega))
    obtain ⟨h2, h3, h4⟩ := h P (by omega)
    have h5 : 0 ≤ co P * 600 / te P := Int.ediv_nonneg (by omega) (by omega)
    have h6 : co P * 600 / te P ≤ 640 := by
      have : co P * 600 / te P < 641 := Int.ediv_lt_of_lt_mul (by omega) (by omega)
      omega
    have e : zTime co te (P + 1) = zTime co te P + co P * 600 / te P := rfl
    omega
theorem fX8_tenthsOfSeconds_ok {N S P : Nat} {sx sy : Nat → Nat → Int} {so : Nat → Nat} {co te : Nat → Int} {lt : Nat → Bool} {go : Nat → Nat → Nat} {m : dM} (hr : zPr N S P sx sy so co te lt go) (h : zPc N P sx sy so co te lt go m) : fX8_tenthsOfSeconds m 47 = some (Int32.ofInt (zTime co te P)) := by
  unfold fX8_tenthsOfSeconds
  have hP := hr.1
  have e := dlp_for (f := fun q => dP2 q (fun v2 v3 => fX8_tenthsOfSeconds_l4 m 47 v2 v3)) (r := Int32.ofInt (zTime co te P)) (fun i => (Int32.ofInt (i : Int), Int32.ofInt (zTime co te i))) P 0 P dFl (by omega) (by show P < 100000; omega) (fun k _ hk => by
    show fX8_tenthsOfSeconds_l4 m 47 (Int32.ofInt (k : Int)) (Int32.ofInt (zTime co te k)) = _
    unfold fX8_tenthsOfSeconds_l4 fX5_tenthsOfSeconds
    obtain ⟨r1, r2, r3, r4, r5, r6⟩ := hr.2 k hk
    obtain ⟨c1, c2, c3, c4, c5⟩ := h.2 k hk
    rw [h.1]
    have e1 : ¬ (Int32.ofInt (P : Int) ≤ Int32.ofInt (k : Int)) := by rw [zi_le (by omega) (by omega) (by omega) (by omega)]; omega
    rw [if_neg e1, fX8_numbered_ok (by omega), Option.bind_some, dg_ok (kPart (by omega)), dg_ok (kPart (by omega)), c2, c3]
    simp only [zi_lit, zi_mul, zi_add]
    rw [fX11_downBy_ok m (by omega) (by omega) (by omega) (by omega)]
    simp only [Option.bind_some, dlet, zi_add]
    rfl) (by
    show fX8_tenthsOfSeconds_l4 m 47 _ _ = _
    unfold fX8_tenthsOfSeconds_l4
    rw [h.1, if_pos (Int32.le_refl _)])
  rw [dg_ok kShow]
  rw [show ((0 : Int32), (0 : Int32)) = (Int32.ofInt ((0 : Nat) : Int), Int32.ofInt (zTime co te 0)) from rfl, e]
  rfl
theorem fX11_lasts_ok {N S P : Nat} {sx sy : Nat → Nat → Int} {so : Nat → Nat} {co te : Nat → Int} {lt : Nat → Bool} {go : Nat → Nat → Nat} {m : dM} (hr : zPr N S P sx sy so co te lt go) (h : zPc N P sx sy so co te lt go m) : fX11_lasts m 0 = some (Int32.ofInt (zTime co te P)) := by
  unfold fX11_lasts
  rw [dg_ok kF, fX8_tenthsOfSeconds_ok hr h]; rfl
theorem fX11_cut_ok {N S P : Nat} {sx sy : Nat → Nat → Int} {so : Nat → Nat} {co te : Nat → Int} {lt : Nat → Bool} {go : Nat → Nat → Nat} {m : dM} (hr : zPr N S (P + 1) sx sy so co te lt go) (h : zPc N (P + 1) sx sy so co te lt go m) : fX11_cut m 0 = some (.inr (Int32.ofInt P, d1 m 47 3 (Int32.ofInt P))) := by
  have hP := hr.1
  unfold fX11_cut fX8_number fX8_shrink
  have e0 : ¬ (Int32.ofInt ((P + 1 : Nat) : Int) = 0) := by
    rw [show (0 : Int32) = Int32.ofInt 0 from rfl, zi_eq (by omega) (by omega) (by omega) (by omega)]; omega
  have e1 : Int32.ofInt ((P + 1 : Nat) : Int) - 1 = Int32.ofInt P := by rw [show (1 : Int32) = Int32.ofInt 1 from rfl, zi_sub]; congr 1; omega
  have e2 : ¬ Int32.ofInt (P : Int) < 0 := by rw [show (0 : Int32) = Int32.ofInt 0 from rfl, zi_lt (by omega) (by omega) (by omega) (by omega)]; omega
  rw [dg_ok kF, dg_ok kShow, h.1, Option.bind_some, if_neg e0, dg_ok kShow, e1, if_neg e2]
  simp only [dlet, Option.bind_some]
  rw [dg_ok kShow]
  simp [d1]
theorem fX11_cut_no {N S : Nat} {sx sy : Nat → Nat → Int} {so : Nat → Nat} {co te : Nat → Int} {lt : Nat → Bool} {go : Nat → Nat → Nat} {m : dM} (h : zPc N 0 sx sy so co te lt go m) : fX11_cut m 0 = some (.inl (2, m)) := by
  unfold fX11_cut fX8_number
  rw [dg_ok kF, dg_ok kShow, h.1]; rfl
theorem fX11_needPart_ok {N S P : Nat} {sx sy : Nat → Nat → Int} {so : Nat → Nat} {co te : Nat → Int} {lt : Nat → Bool} {go : Nat → Nat → Nat} {m : dM} (hr : zPr N S P sx sy so co te lt go) (h : zPc N P sx sy so co te lt go m) {a : Int} (h1 : -2147483648 ≤ a) (h2 : a < 2147483648) : fX11_needPart m 0 (Int32.ofInt a) = if 0 ≤ a ∧ a < P then some (.inr m) else some (.inl (3, m)) := by
  have k1 := hr.1
  unfold fX11_needPart fX8_number
  rw [dg_ok kF, dg_ok kShow, h.1, Option.bind_some, fX11_needIndex_ok m h1 h2 (by omega) (by omega)]
  by_cases q : 0 ≤ a ∧ a < P
  · rw [if_pos q]; rfl
  · rw [if_neg q]; rfl
theorem zmul_bd {c e n M : Int} (h1 : 0 ≤ c) (h2 : c ≤ n) (h3 : -M ≤ e) (h4 : e ≤ M) (hM : 0 ≤ M) : -(n * M) ≤ c * e ∧ c * e ≤ n * M := by
  have a1 := Int.mul_le_mul_of_nonneg_left h4 h1
  have a2 := Int.mul_le_mul_of_nonneg_left h3 h1
  have a3 := Int.mul_le_mul_of_nonneg_right h2 hM
  have a4 : c * -M = -(c * M) := by grind
  omega
/-- where one stands on the way from a to b, at the count c of n -/
def zOn (a b c n : Int) : Int := a + c * (b - a) / n
theorem zOn_in {a b c n M : Int} (h1 : 0 ≤ c) (h2 : c ≤ n) (hn : 0 < n) (ha : 0 ≤ a) (ha' : a ≤ M) (hb : 0 ≤ b) (hb' : b ≤ M) : 0 ≤ zOn a b c n ∧ zOn a b c n ≤ M := by
  unfold zOn
  rcases Int.lt_or_le b a with q | q
  · have e1 : c * (b - a) / n ≤ 0 := by
      have : c * (b - a) ≤ 0 := Int.mul_nonpos_of_nonneg_of_nonpos h1 (by omega)
      have := Int.ediv_le_ediv hn this
      simpa using this
    have e2 : b - a ≤ c * (b - a) / n := by
      refine (Int.le_ediv_iff_mul_le hn).mpr ?_
      have := Int.mul_le_mul_of_nonneg_right h2 (show 0 ≤ a - b by omega)
      have e3 : (b - a) * n = -(n * (a - b)) := by grind
      have e4 : c * (b - a) = -(c * (a - b)) := by grind
      omega
    omega
  · have e1 : 0 ≤ c * (b - a) / n := Int.ediv_nonneg (Int.mul_nonneg h1 (by omega)) (by omega)
    have e2 : c * (b - a) / n ≤ b - a := by
      refine Int.ediv_le_of_le_mul hn ?_
      have := Int.mul_le_mul_of_nonneg_right h2 (show 0 ≤ b - a by omega)
      have e3 : (b - a) * n = n * (b - a) := Int.mul_comm _ _
      omega
    omega
theorem zX_in {N S P : Nat} {sx sy : Nat → Nat → Int} {so : Nat → Nat} {co te : Nat → Int} {lt : Nat → Bool} {go : Nat → Nat → Nat} (hs : zSr N S sx sy) (hr : zPr N S P sx sy so co te lt go) {i d : Nat} (hi : i < P) (hd : d < N) : (0 ≤ zX sx so go i d ∧ zX sx so go i d ≤ 1600) ∧ 0 ≤ zX sy so go i d ∧ zX sy so go i d ≤ 840 := by
  obtain ⟨r1, r2, r3, r4, r5, r6, r7⟩ := hr.2 i hi
  obtain ⟨q1, q2, q3, q4⟩ := hs.2 (so i) r1 (go i d) (r7 d hd)
  exact ⟨⟨q1, q2⟩, q3, q4⟩
theorem kPst {i : Nat} (h : i < 12) : zSp (49 + 8 * i + 1) ∧ zSp (49 + 8 * i + 4) ∧ dL (49 + 8 * i + 7) = 10 := by
  have : ∀ i : Fin 12, (dkg (49 + 8 * i.val + 1) 10 = true ∧ dL (49 + 8 * i.val + 1 + 1) = 10 ∧ dL (49 + 8 * i.val + 1 + 2) = 10 ∧ dK (49 + 8 * i.val + 1 + 1) = 20 ∧ dK (49 + 8 * i.val + 1 + 2) = 20) ∧ (dkg (49 + 8 * i.val + 4) 10 = true ∧ dL (49 + 8 * i.val + 4 + 1) = 10 ∧ dL (49 + 8 * i.val + 4 + 2) = 10 ∧ dK (49 + 8 * i.val + 4 + 1) = 20 ∧ dK (49 + 8 * i.val + 4 + 2) = 20) ∧ dL (49 + 8 * i.val + 7) = 10 := by decide +kernel
  exact this ⟨i, h⟩
theorem fX5_xOf_ok {N S P : Nat} {sx sy : Nat → Nat → Int} {so : Nat → Nat} {co te : Nat → Int} {lt : Nat → Bool} {go : Nat → Nat → Nat} {m : dM} (hN : N ≤ 10) (hs : zSr N S sx sy) (hr : zPr N S P sx sy so co te lt go) (h : zPc N P sx sy so co te lt go m) {i d : Nat} (hi : i < P) (hd : d < N) {c : Int} (hc : 0 ≤ c) (hc' : c ≤ co i) : fX5_xOf m (49 + 8 * i) (Int32.ofInt d) (Int32.ofInt c) = some (Int32.ofInt (zOn (zX sx so go (i - 1) d) (zX sx so go i d) c (co i))) := by
  have hP := hr.1
  obtain ⟨r1, r2, r3, r4, r5, r6, r7⟩ := hr.2 i hi
  obtain ⟨c1, c2, c3, c4, c5⟩ := h.2 i hi
  obtain ⟨b1, b2⟩ := zX_in hs hr hi hd
  obtain ⟨b3, b4⟩ := zX_in hs hr (show i - 1 < P by omega) hd
  obtain ⟨s1, s2, s3⟩ := kPst (show i < 12 by omega)
  have bd := zmul_bd hc (show c ≤ 64 by omega) (show -1600 ≤ zX sx so go i d - zX sx so go (i - 1) d by omega) (by omega) (by decide)
  unfold fX5_xOf
  rw [dg_ok (kPart (by omega)), fX9_x_ok s1 (by omega), fX9_x_ok s2 (by omega)]
  simp only [Option.bind_some]
  rw [(c5 d hd).2.1, (c5 d hd).2.2.2.1, c2]
  simp only [zi_sub, zi_mul]
  rw [fX11_downBy_ok m (by omega) (by omega) (by omega) (by omega)]
  simp only [Option.bind_some, zi_add]
  rfl
theorem fX5_yOf_ok {N S P : Nat} {sx sy : Nat → Nat → Int} {so : Nat → Nat} {co te : Nat → Int} {lt : Nat → Bool} {go : Nat → Nat → Nat} {m : dM} (hN : N ≤ 10) (hs : zSr N S sx sy) (hr : zPr N S P sx sy so co te lt go) (h : zPc N P sx sy so co te lt go m) {i d : Nat} (hi : i < P) (hd : d < N) {c : Int} (hc : 0 ≤ c) (hc' : c ≤ co i) : fX5_yOf m (49 + 8 * i) (Int32.ofInt d) (Int32.ofInt c) = some (Int32.ofInt (zOn (zX sy so go (i - 1) d) (zX sy so go i d) c (co i))) := by
  have hP := hr.1
  obtain ⟨r1, r2, r3, r4, r5, r6, r7⟩ := hr.2 i hi
  obtain ⟨c1, c2, c3, c4, c5⟩ := h.2 i hi
  obtain ⟨b1, b2⟩ := zX_in hs hr hi hd
  obtain ⟨b3, b4⟩ := zX_in hs hr (show i - 1 < P by omega) hd
  obtain ⟨s1, s2, s3⟩ := kPst (show i < 12 by omega)
  have bd := zmul_bd hc (show c ≤ 64 by omega) (show -1600 ≤ zX sy so go i d - zX sy so go (i - 1) d by omega) (by omega) (by decide)
  unfold fX5_yOf
  rw [dg_ok (kPart (by omega)), fX9_y_ok s1 (by omega), fX9_y_ok s2 (by omega)]
  simp only [Option.bind_some]
  rw [(c5 d hd).2.2.1, (c5 d hd).2.2.2.2, c2]
  simp only [zi_sub, zi_mul]
  rw [fX11_downBy_ok m (by omega) (by omega) (by omega) (by omega)]
  simp only [Option.bind_some, zi_add]
  rfl
