theorem fX11_clock_ok (m : dM) {a b : Int} (h1 : -2147483648 ≤ a) (h2 : a < 2147483648) (h3 : -2147483648 ≤ b) (h4 : b < 2147483648) : fX11_clock m 0 (Int32.ofInt a) (Int32.ofInt b) = if 0 ≤ a ∧ a ≤ b ∧ b ≤ 9999 then some (.inr (d1 (d1 m 435 2 (Int32.ofInt a)) 435 3 (Int32.ofInt b))) else some (.inl (1, m)) := by
  unfold fX11_clock fX0_tellClock
  rw [dg_ok kF]
  by_cases c1 : 0 ≤ a ∧ a ≤ 9999
  · by_cases c2 : a ≤ b ∧ b ≤ 9999
    · simp (disch := omega) only [zi_lit, if_pos, if_neg, if_true, if_false, eq_self, Option.bind_some, dlet, dS, dP1, dP2, dP3, zi_le, zi_lt, zi_eq, zi_neg, zi_sub, zi_add, zi_mul, fX11_needRange_ok, dg_ok kCon]
    · simp (disch := omega) only [zi_lit, if_pos, if_neg, if_true, if_false, eq_self, Option.bind_some, dlet, dS, dP1, dP2, dP3, zi_le, zi_lt, zi_eq, zi_neg, zi_sub, zi_add, zi_mul, fX11_needRange_ok, dg_ok kCon]
  · simp (disch := omega) only [zi_lit, if_pos, if_neg, if_true, if_false, eq_self, Option.bind_some, dlet, dS, dP1, dP2, dP3, zi_le, zi_lt, zi_eq, zi_neg, zi_sub, zi_add, zi_mul, fX11_needRange_ok]
theorem kd2 : dL 2 = 10 := by decide +kernel
theorem kd3 : dL 3 = 10 := by decide +kernel
theorem kd4 : dL 4 = 3 := by decide +kernel
theorem kd5 : dL 5 = 3 := by decide +kernel
/-- who marches -/
def zMar (kn : Nat → Int) (il io : Nat → Bool) (d : Nat) : Bool := !il d || (decide (kn 0 = d) && !io 0) || (decide (kn 1 = d) && !io 1) || (decide (kn 2 = d) && !io 2)
theorem zB_0 (b : Bool) : (zB b = 0) = (b = false) := by cases b <;> simp [zB]
theorem zB_dB (b : Bool) : dB (zB b) = true := by cases b <;> rfl
theorem dlp1 {σ ρ : Type} {f : σ → Option (σ ⊕ ρ)} {n : Nat} {s s' : σ} (h : f s = some (.inl s')) : dlp f (n + 1) s = dlp f n s' := by simp [dlp, h]
theorem dlp2 {σ ρ : Type} {f : σ → Option (σ ⊕ ρ)} {n : Nat} {s : σ} {r : ρ} (h : f s = some (.inr r)) : dlp f (n + 1) s = some r := by simp [dlp, h]
theorem fX1_marches_ok {N : Nat} {le kn : Nat → Int} {il io : Nat → Bool} {m : dM} (hr : zDr N le kn) (h : zDc N le kn il io m) {d : Nat} (hd : d < 10) : fX1_marches m 1 (Int32.ofInt d) = some (zB (zMar kn il io d)) := by
  obtain ⟨h1, h2, _, h7⟩ := hr
  obtain ⟨h4, h5, h6⟩ := h
  unfold fX1_marches
  rw [dg_ok kDots, fX11_isInRow_nat m hd, Option.bind_some, if_neg z10, kd3, dg_ok (dIx_nat hd (by decide)), zi_cn (by omega), (h5 d hd).2]
  have step : ∀ a : Nat, a < 3 → fX1_marches_l22 m (Int32.ofInt d) (Int32.ofInt a) = some (if kn a = d ∧ io a = false then .inr (.inl ()) else .inl (Int32.ofInt (a + 1 : Nat))) := by
    intro a ha
    obtain ⟨k1, k2⟩ := h7 a ha
    unfold fX1_marches_l22
    rw [kd4, kd5, zi_cn (by omega), (h6 a ha).1, (h6 a ha).2]
    simp (disch := omega) only [dlet, zi_lit, zi_le, zi_eq, zi_add]
    rw [if_neg (by omega), dg_ok (dIx_nat ha (by decide)), dg_ok (dIx_nat ha (by decide))]
    by_cases c1 : kn a = d
    · rw [if_pos c1]
      cases io a
      · rw [if_pos (by rfl), if_pos ⟨c1, rfl⟩]
      · rw [if_neg (by decide), if_neg (by simp)]; simp
    · rw [if_neg c1, if_neg (fun q => c1 q.1)]; simp
  cases hil : il d
  · rw [if_pos (show zB false = 0 from rfl)]; simp [zMar, hil, zB]
  · rw [if_neg (by decide)]
    have s0 := step 0 (by decide); have s1 := step 1 (by decide); have s2 := step 2 (by decide)
    have s3 : fX1_marches_l22 m (Int32.ofInt d) (Int32.ofInt (3 : Nat)) = some (.inr (.inr ())) := by unfold fX1_marches_l22; rfl
    show (dlp (fun q => (fun v4 => fX1_marches_l22 m (Int32.ofInt d) v4) q) dFl (Int32.ofInt (0 : Nat))).bind _ = _
    have eF : dFl = 99996 + 1 + 1 + 1 + 1 := rfl
    rw [eF]
    unfold zMar
    by_cases c0 : kn 0 = d ∧ io 0 = false
    · rw [dlp2 (r := .inl ()) (by rw [show (fun q => (fun v4 => fX1_marches_l22 m (Int32.ofInt d) v4) q) = fX1_marches_l22 m (Int32.ofInt d) from rfl, s0, if_pos c0])]
      simp [dS, zB, c0]
    · rw [dlp1 (s' := Int32.ofInt (0 + 1 : Nat)) (by rw [show (fun q => (fun v4 => fX1_marches_l22 m (Int32.ofInt d) v4) q) = fX1_marches_l22 m (Int32.ofInt d) from rfl, s0, if_neg c0])]
      by_cases c1 : kn 1 = d ∧ io 1 = false
      · rw [dlp2 (r := .inl ()) (by rw [show (fun q => (fun v4 => fX1_marches_l22 m (Int32.ofInt d) v4) q) = fX1_marches_l22 m (Int32.ofInt d) from rfl, s1, if_pos c1])]
        simp [dS, zB, c1]
      · rw [dlp1 (s' := Int32.ofInt (1 + 1 : Nat)) (by rw [show (fun q => (fun v4 => fX1_marches_l22 m (Int32.ofInt d) v4) q) = fX1_marches_l22 m (Int32.ofInt d) from rfl, s1, if_neg c1])]
        by_cases c2 : kn 2 = d ∧ io 2 = false
        · rw [dlp2 (r := .inl ()) (by rw [show (fun q => (fun v4 => fX1_marches_l22 m (Int32.ofInt d) v4) q) = fX1_marches_l22 m (Int32.ofInt d) from rfl, s2, if_pos c2])]
          simp [dS, zB, c2]
        · rw [dlp1 (s' := Int32.ofInt (2 + 1 : Nat)) (by rw [show (fun q => (fun v4 => fX1_marches_l22 m (Int32.ofInt d) v4) q) = fX1_marches_l22 m (Int32.ofInt d) from rfl, s2, if_neg c2]), dlp2 (r := .inr ()) (by rw [show (fun q => (fun v4 => fX1_marches_l22 m (Int32.ofInt d) v4) q) = fX1_marches_l22 m (Int32.ofInt d) from rfl]; exact s3)]
          simp only [dS, Option.bind_some]
          have : ((!true || decide (kn 0 = ↑d) && !io 0 || decide (kn 1 = ↑d) && !io 1 || decide (kn 2 = ↑d) && !io 2) : Bool) = false := by
            rcases Bool.eq_false_or_eq_true (io 0) with q0 | q0 <;> rcases Bool.eq_false_or_eq_true (io 1) with q1 | q1 <;> rcases Bool.eq_false_or_eq_true (io 2) with q2 | q2 <;> simp_all
          rw [hil, this]; rfl
theorem zB_or1 (b : Bool) : zB b ||| 1 = 1 := by cases b <;> decide
theorem zB_or0 (b : Bool) : zB b ||| 0 = zB b := by cases b <;> decide
theorem fX11_needDot_ok {N : Nat} {le kn : Nat → Int} {il io : Nat → Bool} {m : dM} (hr : zDr N le kn) (h : zDc N le kn il io m) {a : Int} (h1 : -2147483648 ≤ a) (h2 : a < 2147483648) : fX11_needDot m 0 (Int32.ofInt a) = if 0 ≤ a ∧ a < N then some (.inr m) else some (.inl (3, m)) := by
  have k1 := hr.1; have k2 := hr.2.1
  unfold fX11_needDot fX1_number
  rw [dg_ok kF, dg_ok kDots, h.1, Option.bind_some, fX11_needIndex_ok m h1 h2 (by omega) (by omega)]
  by_cases q : 0 ≤ a ∧ a < N
  · rw [if_pos q]; rfl
  · rw [if_neg q]; rfl
/-- the dots, with other legs of one of them -/
def zUp {α : Type} (f : Nat → α) (d : Nat) (v : α) : Nat → α := fun e => if e = d then v else f e
theorem zUp_at {α : Type} {f : Nat → α} {d : Nat} {v : α} : zUp f d v d = v := by simp [zUp]
theorem zUp_ne {α : Type} {f : Nat → α} {d e : Nat} {v : α} (h : e ≠ d) : zUp f d v e = f e := by simp [zUp, h]
theorem zi_nat {a : Int} (h : 0 ≤ a) : ∃ d : Nat, a = d := ⟨a.toNat, by omega⟩
theorem fX11_legs_ok {N : Nat} {le kn : Nat → Int} {il io : Nat → Bool} {m : dM} (hr : zDr N le kn) (h : zDc N le kn il io m) {a b : Int} (h1 : -2147483648 ≤ a) (h2 : a < 2147483648) (h3 : -2147483648 ≤ b) (h4 : b < 2147483648) : fX11_legs m 0 (Int32.ofInt a) (Int32.ofInt b) = if 0 ≤ a ∧ a < N then if 5 ≤ b ∧ b ≤ 40 then some (.inr (Int32.ofInt (le a.toNat), d1 m 2 a.toNat (Int32.ofInt b))) else some (.inl (1, m)) else some (.inl (3, m)) := by
  have k1 := hr.1; have k2 := hr.2.1
  unfold fX11_legs
  rw [dg_ok kF, fX11_needDot_ok hr h h1 h2]
  by_cases c1 : 0 ≤ a ∧ a < N
  · obtain ⟨d, rfl⟩ := zi_nat c1.1
    rw [if_pos c1, if_pos c1]
    simp only [Option.bind_some, dS]
    rw [show (5 : Int32) = Int32.ofInt 5 from rfl, show (40 : Int32) = Int32.ofInt 40 from rfl, fX11_needRange_ok m h3 h4 (by omega) (by omega) (by omega) (by omega)]
    by_cases c2 : 5 ≤ b ∧ b ≤ 40
    · rw [if_pos c2, if_pos c2]
      simp only [Option.bind_some]
      unfold fX1_legsOf fX1_giveLegs
      rw [dg_ok kDots, dg_ok kDots, fX11_isInRow_nat m (by omega), Option.bind_some, if_neg z10, kd2, dg_ok (dIx_nat (by omega) (by decide)), zi_cn (by omega), (h.2.1 d (by omega)).1, Int.toNat_natCast]
      simp only [Option.bind_some]
      rw [if_neg z10, dg_ok (dIx_nat (by omega) (by decide))]
      rfl
    · rw [if_neg c2, if_neg c2]; rfl
  · rw [if_neg c1, if_neg c1]; rfl
theorem zDc.ill {N : Nat} {le kn : Nat → Int} {il io : Nat → Bool} {m : dM} (h : zDc N le kn il io m) (d : Nat) (b : Bool) : zDc N le kn (zUp il d b) io (d1 m 3 d (zB b)) := by
  refine ⟨by simp (disch := omega) only [zd1_ne, zd1_nk, zd2_1]; exact h.1, fun e he => ?_, fun a ha => by simp (disch := omega) only [zd1_ne, zd1_nk, zd2_1]; exact h.2.2 a ha⟩
  by_cases q : e = d
  · subst q; rw [zUp_at]; simp [d1]; exact (h.2.1 e he).1
  · rw [zUp_ne q]; simp [d1, q]; exact h.2.1 e he
theorem fX11_ill_ok {N : Nat} {le kn : Nat → Int} {il io : Nat → Bool} {m : dM} (hr : zDr N le kn) (h : zDc N le kn il io m) {a : Int} (b : Bool) (h1 : -2147483648 ≤ a) (h2 : a < 2147483648) : fX11_ill m 0 (Int32.ofInt a) (zB b) = if 0 ≤ a ∧ a < N then some (.inr (zB (zMar kn (zUp il a.toNat b) io a.toNat), d1 m 3 a.toNat (zB b))) else some (.inl (3, m)) := by
  have k1 := hr.1; have k2 := hr.2.1
  unfold fX11_ill fX1_letBeIll
  rw [dg_ok kF, fX11_needDot_ok hr h h1 h2]
  by_cases c1 : 0 ≤ a ∧ a < N
  · obtain ⟨d, rfl⟩ := zi_nat c1.1
    rw [if_pos c1, if_pos c1]
    simp only [Option.bind_some, dS]
    rw [dg_ok kDots, fX11_isInRow_nat m (by omega), Option.bind_some, if_neg z10, kd3, dg_ok (dIx_nat (by omega) (by decide)), dg_ok (zB_dB b), zi_cn (by omega)]
    simp only [dlet, Option.bind_some, Int.toNat_natCast]
    rw [fX1_marches_ok hr (h.ill d b) (by omega), Option.bind_some, dg_ok (zB_dB _)]
  · rw [if_neg c1, if_neg c1]; rfl
theorem zB_ite {α : Type} (b : Bool) (x y : α) : (if zB b = 0 then x else y) = if b = true then y else x := by cases b <;> simp [zB]
theorem zDc.know {N : Nat} {le kn : Nat → Int} {il io : Nat → Bool} {m : dM} (h : zDc N le kn il io m) (d : Nat) (z : Int) (b : Bool) : zDc N le (zUp kn d z) il (zUp io d b) (d1 (d1 m 4 d (Int32.ofInt z)) 5 d (zB b)) := by
  refine ⟨by simp (disch := omega) only [zd1_ne, zd1_nk, zd2_1]; exact h.1, fun a ha => by simp (disch := omega) only [zd1_ne, zd1_nk, zd2_1]; exact h.2.1 a ha, fun e he => ?_⟩
  by_cases q : e = d
  · subst q; rw [zUp_at, zUp_at]; simp [d1]
  · rw [zUp_ne q, zUp_ne q]; simp [d1, q]; exact h.2.2 e he
theorem fX1_teach_ok {m : dM} {d : Nat} {z : Int32} {b : Bool} (hd : d < 3) : fX1_teach m 1 (Int32.ofInt d) z (zB b) = some (d1 (d1 m 4 d z) 5 d (zB b)) := by
  unfold fX1_teach
  rw [dg_ok kDots, show (0 : Int32) = Int32.ofInt 0 from rfl, show (2 : Int32) = Int32.ofInt 2 from rfl, fX11_isWithin_ok m (by omega) (by omega) (by omega) (by omega) (by omega) (by omega), if_pos (by omega), Option.bind_some, if_neg (by decide), kd4, kd5]
  simp only [dlet]
  rw [dg_ok (dIx_nat hd (by decide)), dg_ok (dIx_nat hd (by decide)), dg_ok (zB_dB b), zi_cn (by omega)]
theorem fX11_alternate_ok {N : Nat} {le kn : Nat → Int} {il io : Nat → Bool} {m : dM} (hr : zDr N le kn) (h : zDc N le kn il io m) {a z : Int} (b : Bool) (h1 : -2147483648 ≤ a) (h2 : a < 2147483648) (h3 : -2147483648 ≤ z) (h4 : z < 2147483648) : fX11_alternate m 0 (Int32.ofInt a) (Int32.ofInt z) (zB b) = if (0 ≤ a ∧ a < 3) ∧ -1 ≤ z ∧ z < N then some (.inr (d1 (d1 m 4 a.toNat (Int32.ofInt z)) 5 a.toNat (zB b))) else some (.inl (3, m)) := by
  have k1 := hr.1; have k2 := hr.2.1
  unfold fX11_alternate
  rw [dg_ok kF, show (3 : Int32) = Int32.ofInt 3 from rfl, fX11_needIndex_ok m h1 h2 (by omega) (by omega)]
  by_cases c1 : 0 ≤ a ∧ a < 3
  · obtain ⟨d, rfl⟩ := zi_nat c1.1
    rw [if_pos c1]
    simp only [Option.bind_some, dS, show (-1 : Int32) = Int32.ofInt (-1) from rfl, zi_eq h3 h4 (show (-2147483648 : Int) ≤ -1 by decide) (show (-1 : Int) < 2147483648 by decide), Int.toNat_natCast]
    by_cases c2 : z = -1
    · rw [if_pos c2, fX1_teach_ok (by omega), if_pos (by omega)]; rfl
    · rw [if_neg c2, fX11_needDot_ok hr h h3 h4]
      by_cases c3 : 0 ≤ z ∧ z < N
      · rw [if_pos c3, if_pos (by omega)]
        simp only [Option.bind_some]
        rw [fX1_teach_ok (by omega)]; rfl
      · rw [if_neg c3, if_neg (by omega)]; rfl
  · rw [if_neg c1, if_neg (fun q => c1 q.1)]; rfl
theorem zFl {m : dM} {a b x : Nat} {v w : Int32} {n : Nat} (h1 : x ≠ a) (h2 : x ≠ b) : (dFill m a b v w n).1 x = m.1 x := by funext j; simp [dFill, h1, h2]
theorem fX11_band_ok {N S : Nat} {sx sy : Nat → Nat → Int} {m : dM} (hS : S ≤ 12) (h : zSc N S sx sy m) {a : Int} (h1 : -2147483648 ≤ a) (h2 : a < 2147483648) : fX11_band m 0 (Int32.ofInt a) = if 2 ≤ a ∧ a ≤ 10 then if S = 0 then some (.inr (dBegin m (Int32.ofInt a))) else some (.inl (2, m)) else some (.inl (1, m)) := by
  unfold fX11_band fX7_number
  rw [dg_ok kF, show (2 : Int32) = Int32.ofInt 2 from rfl, show (10 : Int32) = Int32.ofInt 10 from rfl, fX11_needRange_ok m h1 h2 (by omega) (by omega) (by omega) (by omega)]
  by_cases c : 2 ≤ a ∧ a ≤ 10
  · rw [if_pos c, if_pos c]
    simp only [Option.bind_some, dS]
    rw [dg_ok kSets, h.1, Option.bind_some]
    simp (disch := omega) only [zi_lit, zi_le]
    by_cases c2 : S = 0
    · rw [if_pos (by omega), if_pos c2, fX1_begin_eq]
      simp only [zi_lit]
      rw [if_neg (by rw [zi_lt (by omega) (by omega) (by omega) (by omega)]; omega)]
      rfl
    · rw [if_neg (by omega), if_neg c2]
  · rw [if_neg c, if_neg c]; rfl
