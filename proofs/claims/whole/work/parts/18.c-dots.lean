/-- a call that says nothing of the parts: what it leaves -/
theorem fLaw_25_ok {xs : Nat → Int32} {nL : Nat} {i : Int32} {m : dM} (hI : zI m) (g1 : dIx (i + 1) nL = true) (g2 : dIx (i + 2) nL = true) : ∃ m', fLaw_25 xs nL i m = some m' ∧ zI m' := by
  obtain ⟨a, a1, a2, ea⟩ := zi_of (xs (Int32.toNatClampNeg (i + 1)))
  obtain ⟨b, b1, b2, eb⟩ := zi_of (xs (Int32.toNatClampNeg (i + 2)))
  unfold fLaw_25 fL_rehearse
  rw [ea, eb]
  by_cases c : (1 ≤ a ∧ a ≤ 9999) ∧ 0 ≤ b ∧ b ≤ 60
  · refine ⟨d1 (d2 m 463 0 (Int32.ofInt (zRe a b)).toInt64) 444 25 0, ?_, hI.to (fun a h => by simp (disch := omega) only [zd1_ne, zd1_nk, zd2_1]) (fun k h => by simp (disch := omega) only [zd1_ne, zd1_nk, zd2_1])⟩
    simp (disch := omega) only [dg_ok g1, dg_ok kF, dg_ok kOut, dg_ok kL463, fX12_thrown_ok, Option.bind_some, dS, dP2, dlet, zcl0, zcmp, zd1_at, zd2_at, zd1_2, zd2_1, zd1_ne, zd1_nk, if_pos, if_neg, if_true, if_false, eq_self, zn10, zn20, zn30, zk13, zk31, zk21, zk23, zk12, zk32, dg_ok g2, fX11_rehearse_ok, fX12_rehearse_ok]
  · refine ⟨d1 m 444 25 1, ?_, hI.to (fun a h => by simp (disch := omega) only [zd1_ne, zd1_nk, zd2_1]) (fun k h => by simp (disch := omega) only [zd1_ne, zd1_nk, zd2_1])⟩
    simp (disch := omega) only [dg_ok g1, dg_ok kF, dg_ok kOut, dg_ok kL463, fX12_thrown_ok, Option.bind_some, dS, dP2, dlet, zcl0, zcmp, zd1_at, zd2_at, zd1_2, zd2_1, zd1_ne, zd1_nk, if_pos, if_neg, if_true, if_false, eq_self, zn10, zn20, zn30, zk13, zk31, zk21, zk23, zk12, zk32, dg_ok g2, fX11_rehearse_ok, fX12_rehearse_ok]
theorem fX11_clock_ok (m : dM) {a b : Int} (h1 : -2147483648 ≤ a) (h2 : a < 2147483648) (h3 : -2147483648 ≤ b) (h4 : b < 2147483648) : fX11_clock m 0 (Int32.ofInt a) (Int32.ofInt b) = if 0 ≤ a ∧ a ≤ b ∧ b ≤ 9999 then some (.inr (d1 (d1 m 435 2 (Int32.ofInt a)) 435 3 (Int32.ofInt b))) else some (.inl (1, m)) := by
  unfold fX11_clock fX0_tellClock
  rw [dg_ok kF]
  by_cases c1 : 0 ≤ a ∧ a ≤ 9999
  · by_cases c2 : a ≤ b ∧ b ≤ 9999
    · simp (disch := omega) only [zi_lit, if_pos, if_neg, if_true, if_false, eq_self, Option.bind_some, dlet, dS, dP1, dP2, dP3, zi_le, zi_lt, zi_eq, zi_neg, zi_sub, zi_add, zi_mul, fX11_needRange_ok, dg_ok kCon]
    · simp (disch := omega) only [zi_lit, if_pos, if_neg, if_true, if_false, eq_self, Option.bind_some, dlet, dS, dP1, dP2, dP3, zi_le, zi_lt, zi_eq, zi_neg, zi_sub, zi_add, zi_mul, fX11_needRange_ok, dg_ok kCon]
  · simp (disch := omega) only [zi_lit, if_pos, if_neg, if_true, if_false, eq_self, Option.bind_some, dlet, dS, dP1, dP2, dP3, zi_le, zi_lt, zi_eq, zi_neg, zi_sub, zi_add, zi_mul, fX11_needRange_ok]
theorem fX12_clock_ok (m : dM) {a b : Int} (h1 : -2147483648 ≤ a) (h2 : a < 2147483648) (h3 : -2147483648 ≤ b) (h4 : b < 2147483648) : fX12_clock m 444 (Int32.ofInt a) (Int32.ofInt b) = if 0 ≤ a ∧ a ≤ b ∧ b ≤ 9999 then some (d1 (d1 (d1 m 444 25 0) 444 17 (Int32.ofInt a)) 444 18 (Int32.ofInt b)) else some (d1 m 444 25 1) := by
  unfold fX12_clock
  rw [dg_ok kM]
  by_cases c1 : 0 ≤ a ∧ a ≤ 9999
  · by_cases c2 : a ≤ b ∧ b ≤ 9999
    · simp (disch := omega) only [zi_lit, if_pos, if_neg, if_true, if_false, eq_self, Option.bind_some, dlet, dS, dP1, dP2, dP3, zi_le, zi_lt, zi_eq, zi_neg, zi_sub, zi_add, zi_mul, fX12_isIn_ok]
    · simp (disch := omega) only [zi_lit, if_pos, if_neg, if_true, if_false, eq_self, Option.bind_some, dlet, dS, dP1, dP2, dP3, zi_le, zi_lt, zi_eq, zi_neg, zi_sub, zi_add, zi_mul, fX12_isIn_ok]
  · simp (disch := omega) only [zi_lit, if_pos, if_neg, if_true, if_false, eq_self, Option.bind_some, dlet, dS, dP1, dP2, dP3, zi_le, zi_lt, zi_eq, zi_neg, zi_sub, zi_add, zi_mul, fX12_isIn_ok]
theorem fLaw_21_ok {xs : Nat → Int32} {nL : Nat} {i : Int32} {m : dM} (hI : zI m) (g1 : dIx (i + 1) nL = true) (g2 : dIx (i + 2) nL = true) : ∃ m', fLaw_21 xs nL i m = some m' ∧ zI m' := by
  obtain ⟨a, a1, a2, ea⟩ := zi_of (xs (Int32.toNatClampNeg (i + 1)))
  obtain ⟨b, b1, b2, eb⟩ := zi_of (xs (Int32.toNatClampNeg (i + 2)))
  unfold fLaw_21 fL_clock
  rw [ea, eb]
  by_cases c : 0 ≤ a ∧ a ≤ b ∧ b ≤ 9999
  · refine ⟨d1 (d1 (d1 (d1 (d1 m 435 2 (Int32.ofInt a)) 435 3 (Int32.ofInt b)) 444 25 0) 444 17 (Int32.ofInt a)) 444 18 (Int32.ofInt b), ?_, ?_⟩
    · simp (disch := omega) only [dg_ok g1, dg_ok kF, dg_ok kOut, dg_ok kL463, fX12_thrown_ok, Option.bind_some, dS, dP2, dlet, zcl0, zcmp, zd1_at, zd2_at, zd1_2, zd2_1, zd1_ne, zd1_nk, if_pos, if_neg, if_true, if_false, eq_self, zn10, zn20, zn30, zk13, zk31, zk21, zk23, zk12, zk32, dg_ok g2, fX11_clock_ok, fX12_clock_ok]
    · obtain ⟨N, S, P, pp, le, kn, il, io, sx, sy, so, co, te, lt, go, px, py, lo, hi, cap, pen, h0, h1, h1m, h2, h3, h4, h5, h6, h7, h8, h9, h10, h11, h12, h13⟩ := hI
      refine ⟨N, S, P, pp, le, kn, il, io, sx, sy, so, co, te, lt, go, px, py, a, b, cap, pen, h0, h1.to (fun a q1 q2 => by simp (disch := omega) only [zd1_ne, zd1_nk, zd2_1]), h1m.to (fun a q1 q2 => by simp (disch := omega) only [zd1_ne, zd1_nk, zd2_1]) (by simp (disch := omega) only [zd1_ne, zd1_nk, zd2_1]), h2, h3.to h2.1 (fun a q1 q2 => by simp (disch := omega) only [zd1_ne, zd1_nk, zd2_1]), h4.to (fun a q1 q2 => by simp (disch := omega) only [zd1_ne, zd1_nk, zd2_1]) (by simp (disch := omega) only [zd1_ne, zd1_nk, zd2_1]), h5, h6.to h5.1 (fun a q1 q2 => by simp (disch := omega) only [zd1_ne, zd1_nk, zd2_1]), h7.to (fun a q1 q2 => by simp (disch := omega) only [zd1_ne, zd1_nk, zd2_1]) (by simp (disch := omega) only [zd1_ne, zd1_nk, zd2_1]), h8, h9.to h8.1 (fun a q1 q2 => by simp (disch := omega) only [zd1_ne, zd1_nk, zd2_1]), h10.to (fun a q1 q2 => by simp (disch := omega) only [zd1_ne, zd1_nk, zd2_1]), ⟨c.1, c.2.1, c.2.2, h11.2.2.2⟩, ⟨by simp [d1], by simp [d1], fun b hb => ?_⟩, ⟨by simp [d1], by simp [d1], fun b hb => ?_⟩⟩
      · have := h12.2.2 b hb; simp (disch := omega) only [zd1_ne, zd1_nk, zd2_1]; exact this
      · have := h13.2.2 b hb; simp (disch := omega) only [zd1_ne, zd1_nk, zd2_1]; exact this
  · refine ⟨d1 m 444 25 1, ?_, hI.to (fun a h => by simp (disch := omega) only [zd1_ne, zd1_nk, zd2_1]) (fun k h => by simp (disch := omega) only [zd1_ne, zd1_nk, zd2_1])⟩
    simp (disch := omega) only [dg_ok g1, dg_ok kF, dg_ok kOut, dg_ok kL463, fX12_thrown_ok, Option.bind_some, dS, dP2, dlet, zcl0, zcmp, zd1_at, zd2_at, zd1_2, zd2_1, zd1_ne, zd1_nk, if_pos, if_neg, if_true, if_false, eq_self, zn10, zn20, zn30, zk13, zk31, zk21, zk23, zk12, zk32, dg_ok g2, fX11_clock_ok, fX12_clock_ok]
/-! dots: legs, ill, alternate, band -/
theorem kd2 : dL 2 = 10 := by decide +kernel
theorem kd3 : dL 3 = 10 := by decide +kernel
theorem kd4 : dL 4 = 3 := by decide +kernel
theorem kd5 : dL 5 = 3 := by decide +kernel
theorem kd445 : dL 445 = 10 := by decide +kernel
theorem kd446 : dL 446 = 10 := by decide +kernel
theorem kd447 : dL 447 = 3 := by decide +kernel
theorem kd448 : dL 448 = 3 := by decide +kernel
/-- who marches -/
def zMar (kn : Nat → Int) (il io : Nat → Bool) (d : Nat) : Bool := !il d || (decide (kn 0 = d) && !io 0) || (decide (kn 1 = d) && !io 1) || (decide (kn 2 = d) && !io 2)
theorem zB_0 (b : Bool) : (zB b = 0) = (b = false) := by cases b <;> simp [zB]
theorem zB_dB (b : Bool) : dB (zB b) = true := by cases b <;> rfl
theorem dlp1 {σ ρ : Type} {f : σ → Option (σ ⊕ ρ)} {n : Nat} {s s' : σ} (h : f s = some (.inl s')) : dlp f (n + 1) s = dlp f n s' := by simp [dlp, h]
theorem dlp2 {σ ρ : Type} {f : σ → Option (σ ⊕ ρ)} {n : Nat} {s : σ} {r : ρ} (h : f s = some (.inr r)) : dlp f (n + 1) s = some r := by simp [dlp, h]
theorem fX1_marches_ok {N : Nat} {le kn : Nat → Int} {il io : Nat → Bool} {m : dM} (hr : zDr N le kn) (h : zDc N le kn il io m) {d : Nat} (hd : d < 10) : fX1_marches m 1 (Int32.ofInt d) = some (zB (zMar kn il io d)) := by
  obtain ⟨h1, h2, _, h7⟩ := hr
  obtain ⟨h4, h5, h6⟩ := h
  unfold fX1_marches
  rw [dg_ok kDots, fX11_isInRow_nat m hd, Option.bind_some, if_neg z10, kd3, dg_ok (dIx_nat hd (by decide)), zi_cn (by omega), (h5 d hd).2]
  have step : ∀ a : Nat, a < 3 → fX1_marches_l22 m (Int32.ofInt d) (Int32.ofInt a) = some (if kn a = d ∧ io a = false then .inr (.inl ()) else .inl (Int32.ofInt (a + 1 : Nat))) := by
    intro a ha
    obtain ⟨k1, k2⟩ := h7 a ha
    unfold fX1_marches_l22
    rw [kd4, kd5, zi_cn (by omega), (h6 a ha).1, (h6 a ha).2]
    simp (disch := omega) only [dlet, zi_lit, zi_le, zi_eq, zi_add]
    rw [if_neg (by omega), dg_ok (dIx_nat ha (by decide)), dg_ok (dIx_nat ha (by decide))]
    by_cases c1 : kn a = d
    · rw [if_pos c1]
      cases io a
      · rw [if_pos (by rfl), if_pos ⟨c1, rfl⟩]
      · rw [if_neg (by decide), if_neg (by simp)]; simp
    · rw [if_neg c1, if_neg (fun q => c1 q.1)]; simp
  cases hil : il d
  · rw [if_pos (show zB false = 0 from rfl)]; simp [zMar, hil, zB]
  · rw [if_neg (by decide)]
    have s0 := step 0 (by decide); have s1 := step 1 (by decide); have s2 := step 2 (by decide)
    have s3 : fX1_marches_l22 m (Int32.ofInt d) (Int32.ofInt (3 : Nat)) = some (.inr (.inr ())) := by unfold fX1_marches_l22; rfl
    show (dlp (fun q => (fun v4 => fX1_marches_l22 m (Int32.ofInt d) v4) q) dFl (Int32.ofInt (0 : Nat))).bind _ = _
    have eF : dFl = 99996 + 1 + 1 + 1 + 1 := rfl
    rw [eF]
    unfold zMar
    by_cases c0 : kn 0 = d ∧ io 0 = false
    · rw [dlp2 (r := .inl ()) (by rw [show (fun q => (fun v4 => fX1_marches_l22 m (Int32.ofInt d) v4) q) = fX1_marches_l22 m (Int32.ofInt d) from rfl, s0, if_pos c0])]
      simp [dS, zB, c0]
    · rw [dlp1 (s' := Int32.ofInt (0 + 1 : Nat)) (by rw [show (fun q => (fun v4 => fX1_marches_l22 m (Int32.ofInt d) v4) q) = fX1_marches_l22 m (Int32.ofInt d) from rfl, s0, if_neg c0])]
      by_cases c1 : kn 1 = d ∧ io 1 = false
      · rw [dlp2 (r := .inl ()) (by rw [show (fun q => (fun v4 => fX1_marches_l22 m (Int32.ofInt d) v4) q) = fX1_marches_l22 m (Int32.ofInt d) from rfl, s1, if_pos c1])]
        simp [dS, zB, c1]
      · rw [dlp1 (s' := Int32.ofInt (1 + 1 : Nat)) (by rw [show (fun q => (fun v4 => fX1_marches_l22 m (Int32.ofInt d) v4) q) = fX1_marches_l22 m (Int32.ofInt d) from rfl, s1, if_neg c1])]
        by_cases c2 : kn 2 = d ∧ io 2 = false
        · rw [dlp2 (r := .inl ()) (by rw [show (fun q => (fun v4 => fX1_marches_l22 m (Int32.ofInt d) v4) q) = fX1_marches_l22 m (Int32.ofInt d) from rfl, s2, if_pos c2])]
          simp [dS, zB, c2]
        · rw [dlp1 (s' := Int32.ofInt (2 + 1 : Nat)) (by rw [show (fun q => (fun v4 => fX1_marches_l22 m (Int32.ofInt d) v4) q) = fX1_marches_l22 m (Int32.ofInt d) from rfl, s2, if_neg c2]), dlp2 (r := .inr ()) (by rw [show (fun q => (fun v4 => fX1_marches_l22 m (Int32.ofInt d) v4) q) = fX1_marches_l22 m (Int32.ofInt d) from rfl]; exact s3)]
          simp only [dS, Option.bind_some]
          have : ((!true || decide (kn 0 = ↑d) && !io 0 || decide (kn 1 = ↑d) && !io 1 || decide (kn 2 = ↑d) && !io 2) : Bool) = false := by
            rcases Bool.eq_false_or_eq_true (io 0) with q0 | q0 <;> rcases Bool.eq_false_or_eq_true (io 1) with q1 | q1 <;> rcases Bool.eq_false_or_eq_true (io 2) with q2 | q2 <;> simp_all
          rw [hil, this]; rfl
theorem zB_or1 (b : Bool) : zB b ||| 1 = 1 := by cases b <;> decide
theorem zB_or0 (b : Bool) : zB b ||| 0 = zB b := by cases b <;> decide
theorem fX12_marches_ok {N : Nat} {le kn : Nat → Int} {il io : Nat → Bool} {m : dM} (hr : zDr N le kn) (h : zDm N le kn il io m) {d : Nat} (hd : d < 10) : fX12_marches m 444 (Int32.ofInt d) = some (zB (zMar kn il io d)) := by
  obtain ⟨h1, h2, _, h7⟩ := hr
  obtain ⟨h4, h5, h6⟩ := h
  unfold fX12_marches
  rw [dg_ok kM, kd446, dg_ok (dIx_nat hd (by decide)), zi_cn (by omega), (h5 d hd).2]
  have step : ∀ (a : Nat) (b : Bool), a < 3 → fX12_marches_l17 m (Int32.ofInt d) (Int32.ofInt a) (zB b) = some (.inl (Int32.ofInt (a + 1 : Nat), zB (b || (decide (kn a = d) && !io a)))) := by
    intro a b ha
    obtain ⟨k1, k2⟩ := h7 a ha
    unfold fX12_marches_l17
    rw [kd447, kd448, zi_cn (by omega), (h6 a ha).1, (h6 a ha).2, zB_or1, zB_or0, dg_ok (dIx_nat ha (by decide)), dg_ok (dIx_nat ha (by decide))]
    simp (disch := omega) only [dlet, zi_eq]
    have e3 : ¬ (3 : Int32) ≤ Int32.ofInt a := by rw [show (3 : Int32) = Int32.ofInt 3 from rfl, zi_le (by omega) (by omega) (by omega) (by omega)]; omega
    have e1 : Int32.ofInt (a : Int) + 1 = Int32.ofInt (a + 1 : Nat) := by rw [show (1 : Int32) = Int32.ofInt 1 from rfl, zi_add]; rfl
    rw [if_neg e3, e1]
    by_cases c1 : kn a = d
    · rw [if_pos c1]
      cases io a <;> cases b <;> simp [zB, c1]
    · rw [if_neg c1]
      cases b <;> simp [c1, zB]
  have last : ∀ b, fX12_marches_l17 m (Int32.ofInt d) (Int32.ofInt (3 : Nat)) b = some (.inr b) := fun b => by unfold fX12_marches_l17; rfl
  have run : ∀ b, dlp (fun q => dP2 q (fun v2 v3 => fX12_marches_l17 m (Int32.ofInt d) v2 v3)) dFl (0, zB b) = some (zB (b || (decide (kn 0 = d) && !io 0) || (decide (kn 1 = d) && !io 1) || (decide (kn 2 = d) && !io 2))) := by
    intro b
    have eF : dFl = 99996 + 1 + 1 + 1 + 1 := rfl
    rw [eF, show ((0 : Int32), zB b) = (Int32.ofInt (0 : Nat), zB b) from rfl, dlp1 (step 0 _ (by decide)), dlp1 (step 1 _ (by decide)), dlp1 (step 2 _ (by decide)), dlp2 (last _)]
  have e2 : fX12_marches_l17_2 = fX12_marches_l17 := rfl
  rw [e2]
  cases hil : il d
  · rw [if_pos (show zB false = 0 from rfl), show (1 : Int32) = zB true from rfl, run]
    simp only [Option.bind_some, dP1]
    rw [dg_ok (zB_dB _)]
    simp [zMar, hil]
  · rw [if_neg (show ¬ zB true = 0 by decide), show (0 : Int32) = zB false from rfl]
    rw [show (zB false, zB false) = ((0 : Int32), zB false) from rfl, run]
    simp only [Option.bind_some, dP1]
    rw [dg_ok (zB_dB _)]
    simp [zMar, hil]
theorem fX11_needDot_ok {N : Nat} {le kn : Nat → Int} {il io : Nat → Bool} {m : dM} (hr : zDr N le kn) (h : zDc N le kn il io m) {a : Int} (h1 : -2147483648 ≤ a) (h2 : a < 2147483648) : fX11_needDot m 0 (Int32.ofInt a) = if 0 ≤ a ∧ a < N then some (.inr m) else some (.inl (3, m)) := by
  have k1 := hr.1; have k2 := hr.2.1
  unfold fX11_needDot fX1_number
  rw [dg_ok kF, dg_ok kDots, h.1, Option.bind_some, fX11_needIndex_ok m h1 h2 (by omega) (by omega)]
  by_cases q : 0 ≤ a ∧ a < N
  · rw [if_pos q]; rfl
  · rw [if_neg q]; rfl
theorem fX12_isDot_ok {N : Nat} {le kn : Nat → Int} {il io : Nat → Bool} {m : dM} (hr : zDr N le kn) (h : zDm N le kn il io m) {a : Int} (h1 : -2147483648 ≤ a) (h2 : a < 2147483648) : fX12_isDot m 444 (Int32.ofInt a) = some (if 0 ≤ a ∧ a < N then 1 else 0) := by
  have k1 := hr.1; have k2 := hr.2.1
  unfold fX12_isDot
  rw [dg_ok kM, h.1]
  simp only [zi_lit, zi_sub]
  rw [fX12_isIn_ok m h1 h2 (by omega) (by omega) (by omega) (by omega), Option.bind_some]
  by_cases q : 0 ≤ a ∧ a < N
  · rw [if_pos (show 0 ≤ a ∧ a ≤ (N : Int) - 1 by omega), if_pos q]; rfl
  · rw [if_neg (show ¬ (0 ≤ a ∧ a ≤ (N : Int) - 1) by omega), if_neg q]; rfl
/-- the dots, with other legs of one of them -/
def zUp {α : Type} (f : Nat → α) (d : Nat) (v : α) : Nat → α := fun e => if e = d then v else f e
theorem zUp_at {α : Type} {f : Nat → α} {d : Nat} {v : α} : zUp f d v d = v := by simp [zUp]
theorem zUp_ne {α : Type} {f : Nat → α} {d e : Nat} {v : α} (h : e ≠ d) : zUp f d v e = f e := by simp [zUp, h]
theorem zi_nat {a : Int} (h : 0 ≤ a) : ∃ d : Nat, a = d := ⟨a.toNat, by omega⟩
theorem fX11_legs_ok {N : Nat} {le kn : Nat → Int} {il io : Nat → Bool} {m : dM} (hr : zDr N le kn) (h : zDc N le kn il io m) {a b : Int} (h1 : -2147483648 ≤ a) (h2 : a < 2147483648) (h3 : -2147483648 ≤ b) (h4 : b < 2147483648) : fX11_legs m 0 (Int32.ofInt a) (Int32.ofInt b) = if 0 ≤ a ∧ a < N then if 5 ≤ b ∧ b ≤ 40 then some (.inr (Int32.ofInt (le a.toNat), d1 m 2 a.toNat (Int32.ofInt b))) else some (.inl (1, m)) else some (.inl (3, m)) := by
  have k1 := hr.1; have k2 := hr.2.1
  unfold fX11_legs
  rw [dg_ok kF, fX11_needDot_ok hr h h1 h2]
  by_cases c1 : 0 ≤ a ∧ a < N
  · obtain ⟨d, rfl⟩ := zi_nat c1.1
    rw [if_pos c1, if_pos c1]
    simp only [Option.bind_some, dS]
    rw [show (5 : Int32) = Int32.ofInt 5 from rfl, show (40 : Int32) = Int32.ofInt 40 from rfl, fX11_needRange_ok m h3 h4 (by omega) (by omega) (by omega) (by omega)]
    by_cases c2 : 5 ≤ b ∧ b ≤ 40
    · rw [if_pos c2, if_pos c2]
      simp only [Option.bind_some]
      unfold fX1_legsOf fX1_giveLegs
      rw [dg_ok kDots, dg_ok kDots, fX11_isInRow_nat m (by omega), Option.bind_some, if_neg z10, kd2, dg_ok (dIx_nat (by omega) (by decide)), zi_cn (by omega), (h.2.1 d (by omega)).1, Int.toNat_natCast]
      simp only [Option.bind_some]
      rw [if_neg z10, dg_ok (dIx_nat (by omega) (by decide))]
      rfl
    · rw [if_neg c2, if_neg c2]; rfl
  · rw [if_neg c1, if_neg c1]; rfl
theorem fX12_legs_ok {N : Nat} {le kn : Nat → Int} {il io : Nat → Bool} {m : dM} (hr : zDr N le kn) (h : zDm N le kn il io m) {a b : Int} (h1 : -2147483648 ≤ a) (h2 : a < 2147483648) (h3 : -2147483648 ≤ b) (h4 : b < 2147483648) : fX12_legs m 444 (Int32.ofInt a) (Int32.ofInt b) = if 0 ≤ a ∧ a < N then if 5 ≤ b ∧ b ≤ 40 then some (Int32.ofInt (le a.toNat), d1 (d1 m 444 25 0) 445 a.toNat (Int32.ofInt b)) else some (0, d1 m 444 25 2) else some (0, d1 m 444 25 1) := by
  have k1 := hr.1; have k2 := hr.2.1
  unfold fX12_legs
  rw [dg_ok kM, fX12_isDot_ok hr h h1 h2, Option.bind_some]
  by_cases c1 : 0 ≤ a ∧ a < N
  · obtain ⟨d, rfl⟩ := zi_nat c1.1
    simp only [if_pos c1, if_neg z10]
    rw [show (5 : Int32) = Int32.ofInt 5 from rfl, show (40 : Int32) = Int32.ofInt 40 from rfl, fX12_isIn_ok m h3 h4 (by omega) (by omega) (by omega) (by omega), Option.bind_some]
    by_cases c2 : 5 ≤ b ∧ b ≤ 40
    · simp only [if_pos c2, if_neg z10, dlet]
      rw [kd445, dg_ok (dIx_nat (by omega) (by decide)), dg_ok (dIx_nat (by omega) (by decide)), zi_cn (by omega), Int.toNat_natCast, zd1_ne (by decide), (h.2.1 d (by omega)).1]
    · simp only [if_neg c2, if_true, dlet]
  · simp only [if_neg c1, if_true, dlet]
theorem fLaw_1_ok {xs : Nat → Int32} {nL : Nat} {i : Int32} {m : dM} (hI : zI m) (g1 : dIx (i + 1) nL = true) (g2 : dIx (i + 2) nL = true) : ∃ m', fLaw_1 xs nL i m = some m' ∧ zI m' := by
  obtain ⟨a, a1, a2, ea⟩ := zi_of (xs (Int32.toNatClampNeg (i + 1)))
  obtain ⟨b, b1, b2, eb⟩ := zi_of (xs (Int32.toNatClampNeg (i + 2)))
  have hI0 := hI
  obtain ⟨N, S, P, pp, le, kn, il, io, sx, sy, so, co, te, lt, go, px, py, lo, hi, cap, pen, h0, h1, h1m, h2, h3, h4, h5, h6, h7, h8, h9, h10, h11, h12, h13⟩ := hI0
  unfold fLaw_1 fL_legs
  rw [ea, eb]
  by_cases c1 : 0 ≤ a ∧ a < N
  · by_cases c2 : 5 ≤ b ∧ b ≤ 40
    · obtain ⟨d, rfl⟩ := zi_nat c1.1
      refine ⟨d1 (d1 (d2 (d1 m 2 d (Int32.ofInt b)) 463 0 (Int32.ofInt (le d)).toInt64) 444 25 0) 445 d (Int32.ofInt b), ?_, ?_⟩
      · have h1n : zDm N le kn il io (d2 (d1 m 2 d (Int32.ofInt b)) 463 0 (Int32.ofInt (le d)).toInt64) := h1m.to (fun a q1 q2 => by simp (disch := omega) only [zd1_ne, zd1_nk, zd2_1]) (by simp (disch := omega) only [zd1_ne, zd1_nk, zd2_1])
        simp (disch := omega) only [dg_ok g1, dg_ok kF, dg_ok kOut, dg_ok kL463, fX12_thrown_ok, Option.bind_some, dS, dP2, dlet, zcl0, zcmp, zd1_at, zd2_at, zd1_2, zd2_1, zd1_ne, zd1_nk, if_pos, if_neg, if_true, if_false, eq_self, zn10, zn20, zn30, zk13, zk31, zk21, zk23, zk12, zk32, dg_ok g2, fX11_legs_ok h0 h1, fX12_legs_ok h0 h1n, Int.toNat_natCast]
      · refine ⟨N, S, P, pp, zUp le d b, kn, il, io, sx, sy, so, co, te, lt, go, px, py, lo, hi, cap, pen, ⟨h0.1, h0.2.1, fun e he => ?_, h0.2.2.2⟩, ⟨by simp (disch := omega) only [zd1_ne, zd1_nk, zd2_1]; exact h1.1, fun e he => ?_, fun a ha => by simp (disch := omega) only [zd1_ne, zd1_nk, zd2_1]; exact h1.2.2 a ha⟩, ⟨by simp (disch := omega) only [zd1_ne, zd1_nk, zd2_1]; exact h1m.1, fun e he => ?_, fun a ha => by simp (disch := omega) only [zd1_ne, zd1_nk, zd2_1]; exact h1m.2.2 a ha⟩, h2, h3.to h2.1 (fun a q1 q2 => by simp (disch := omega) only [zd1_ne, zd1_nk, zd2_1]), h4.to (fun a q1 q2 => by simp (disch := omega) only [zd1_ne, zd1_nk, zd2_1]) (by simp (disch := omega) only [zd1_ne, zd1_nk, zd2_1]), h5, h6.to h5.1 (fun a q1 q2 => by simp (disch := omega) only [zd1_ne, zd1_nk, zd2_1]), h7.to (fun a q1 q2 => by simp (disch := omega) only [zd1_ne, zd1_nk, zd2_1]) (by simp (disch := omega) only [zd1_ne, zd1_nk, zd2_1]), h8, h9.to h8.1 (fun a q1 q2 => by simp (disch := omega) only [zd1_ne, zd1_nk, zd2_1]), h10.to (fun a q1 q2 => by simp (disch := omega) only [zd1_ne, zd1_nk, zd2_1]), h11, h12.to (fun a q1 q2 => by simp (disch := omega) only [zd1_ne, zd1_nk, zd2_1]), h13.to (fun a q1 q2 => by simp (disch := omega) only [zd1_ne, zd1_nk, zd2_1]) (by simp (disch := omega) only [zd1_ne, zd1_nk, zd2_1]) (by simp (disch := omega) only [zd1_ne, zd1_nk, zd2_1])⟩
        · unfold zUp; split
          · omega
          · exact h0.2.2.1 e he
        · by_cases q : e = d
          · subst q; rw [zUp_at]; simp [d1, d2]; exact (h1.2.1 e he).2
          · rw [zUp_ne q]; simp [d1, d2, q]; exact h1.2.1 e he
        · by_cases q : e = d
          · subst q; rw [zUp_at]; simp [d1, d2]; exact (h1m.2.1 e he).2
          · rw [zUp_ne q]; simp [d1, d2, q]; exact h1m.2.1 e he
    · refine ⟨d1 m 444 25 2, ?_, hI.to (fun a h => by simp (disch := omega) only [zd1_ne, zd1_nk, zd2_1]) (fun k h => by simp (disch := omega) only [zd1_ne, zd1_nk, zd2_1])⟩
      simp (disch := omega) only [dg_ok g1, dg_ok kF, dg_ok kOut, dg_ok kL463, fX12_thrown_ok, Option.bind_some, dS, dP2, dlet, zcl0, zcmp, zd1_at, zd2_at, zd1_2, zd2_1, zd1_ne, zd1_nk, if_pos, if_neg, if_true, if_false, eq_self, zn10, zn20, zn30, zk13, zk31, zk21, zk23, zk12, zk32, dg_ok g2, fX11_legs_ok h0 h1, fX12_legs_ok h0 h1m]
  · refine ⟨d1 m 444 25 1, ?_, hI.to (fun a h => by simp (disch := omega) only [zd1_ne, zd1_nk, zd2_1]) (fun k h => by simp (disch := omega) only [zd1_ne, zd1_nk, zd2_1])⟩
    simp (disch := omega) only [dg_ok g1, dg_ok kF, dg_ok kOut, dg_ok kL463, fX12_thrown_ok, Option.bind_some, dS, dP2, dlet, zcl0, zcmp, zd1_at, zd2_at, zd1_2, zd2_1, zd1_ne, zd1_nk, if_pos, if_neg, if_true, if_false, eq_self, zn10, zn20, zn30, zk13, zk31, zk21, zk23, zk12, zk32, dg_ok g2, fX11_legs_ok h0 h1, fX12_legs_ok h0 h1m]
theorem zDc.ill {N : Nat} {le kn : Nat → Int} {il io : Nat → Bool} {m : dM} (h : zDc N le kn il io m) (d : Nat) (b : Bool) : zDc N le kn (zUp il d b) io (d1 m 3 d (zB b)) := by
  refine ⟨by simp (disch := omega) only [zd1_ne, zd1_nk, zd2_1]; exact h.1, fun e he => ?_, fun a ha => by simp (disch := omega) only [zd1_ne, zd1_nk, zd2_1]; exact h.2.2 a ha⟩
  by_cases q : e = d
  · subst q; rw [zUp_at]; simp [d1]; exact (h.2.1 e he).1
  · rw [zUp_ne q]; simp [d1, q]; exact h.2.1 e he
theorem zDm.ill {N : Nat} {le kn : Nat → Int} {il io : Nat → Bool} {m : dM} (h : zDm N le kn il io m) (d : Nat) (b : Bool) : zDm N le kn (zUp il d b) io (d1 m 446 d (zB b)) := by
  refine ⟨by simp (disch := omega) only [zd1_ne, zd1_nk, zd2_1]; exact h.1, fun e he => ?_, fun a ha => by simp (disch := omega) only [zd1_ne, zd1_nk, zd2_1]; exact h.2.2 a ha⟩
  by_cases q : e = d
  · subst q; rw [zUp_at]; simp [d1]; exact (h.2.1 e he).1
  · rw [zUp_ne q]; simp [d1, q]; exact h.2.1 e he
theorem fX11_ill_ok {N : Nat} {le kn : Nat → Int} {il io : Nat → Bool} {m : dM} (hr : zDr N le kn) (h : zDc N le kn il io m) {a : Int} (b : Bool) (h1 : -2147483648 ≤ a) (h2 : a < 2147483648) : fX11_ill m 0 (Int32.ofInt a) (zB b) = if 0 ≤ a ∧ a < N then some (.inr (zB (zMar kn (zUp il a.toNat b) io a.toNat), d1 m 3 a.toNat (zB b))) else some (.inl (3, m)) := by
  have k1 := hr.1; have k2 := hr.2.1
  unfold fX11_ill fX1_letBeIll
  rw [dg_ok kF, fX11_needDot_ok hr h h1 h2]
  by_cases c1 : 0 ≤ a ∧ a < N
  · obtain ⟨d, rfl⟩ := zi_nat c1.1
    rw [if_pos c1, if_pos c1]
    simp only [Option.bind_some, dS]
    rw [dg_ok kDots, fX11_isInRow_nat m (by omega), Option.bind_some, if_neg z10, kd3, dg_ok (dIx_nat (by omega) (by decide)), dg_ok (zB_dB b), zi_cn (by omega)]
    simp only [dlet, Option.bind_some, Int.toNat_natCast]
    rw [fX1_marches_ok hr (h.ill d b) (by omega), Option.bind_some, dg_ok (zB_dB _)]
  · rw [if_neg c1, if_neg c1]; rfl
theorem fX12_ill_ok {N : Nat} {le kn : Nat → Int} {il io : Nat → Bool} {m : dM} (hr : zDr N le kn) (h : zDm N le kn il io m) {a : Int} (b : Bool) (h1 : -2147483648 ≤ a) (h2 : a < 2147483648) : fX12_ill m 444 (Int32.ofInt a) (zB b) = if 0 ≤ a ∧ a < N then some (zB (zMar kn (zUp il a.toNat b) io a.toNat), d1 (d1 m 444 25 0) 446 a.toNat (zB b)) else some (0, d1 m 444 25 1) := by
  have k1 := hr.1; have k2 := hr.2.1
  unfold fX12_ill
  rw [dg_ok kM, fX12_isDot_ok hr h h1 h2, Option.bind_some]
  by_cases c1 : 0 ≤ a ∧ a < N
  · obtain ⟨d, rfl⟩ := zi_nat c1.1
    simp only [if_pos c1, if_neg z10, dlet]
    rw [kd446, dg_ok (dIx_nat (by omega) (by decide)), dg_ok (zB_dB b), zi_cn (by omega), Int.toNat_natCast, fX12_marches_ok hr (((h.to (m' := d1 m 444 25 0) (fun a q1 q2 => by simp (disch := omega) only [zd1_ne, zd1_nk, zd2_1]) (by simp (disch := omega) only [zd1_ne, zd1_nk, zd2_1]))).ill d b) (by omega), Option.bind_some, dg_ok (zB_dB _)]
  · simp only [if_neg c1, if_true, dlet]
theorem zB_ite {α : Type} (b : Bool) (x y : α) : (if zB b = 0 then x else y) = if b = true then y else x := by cases b <;> simp [zB]
theorem fLaw_2_ok {xs : Nat → Int32} {nL : Nat} {i : Int32} {m : dM} (hI : zI m) (g1 : dIx (i + 1) nL = true) (g2 : dIx (i + 2) nL = true) : ∃ m', fLaw_2 xs nL i m = some m' ∧ zI m' := by
  obtain ⟨a, a1, a2, ea⟩ := zi_of (xs (Int32.toNatClampNeg (i + 1)))
  have hI0 := hI
  obtain ⟨N, S, P, pp, le, kn, il, io, sx, sy, so, co, te, lt, go, px, py, lo, hi, cap, pen, h0, h1, h1m, h2, h3, h4, h5, h6, h7, h8, h9, h10, h11, h12, h13⟩ := hI0
  have key : ∀ b : Bool, ∃ m', ((fL_ill m 0 (Int32.ofInt a) (zB b) 463).bind (fun q => dP2 q (fun v3 m2 => (fX12_ill m2 444 (Int32.ofInt a) (zB b)).bind (fun q => dP2 q (fun v6 m5 => (fX12_thrown m5 444).bind (fun v8 => if v8 = v3 then if v3 = 0 then dg (dIx 0 (dL 463)) (if v6 = 0 then if (lg_cmp (m5.2 463 (Int32.toNatClampNeg (0))) 0) = 0 then some m5 else none else if (lg_cmp (m5.2 463 (Int32.toNatClampNeg (0))) 1) = 0 then some m5 else none) else some m5 else none)))))) = some m' ∧ zI m' := by
    intro b
    unfold fL_ill
    by_cases c1 : 0 ≤ a ∧ a < N
    · obtain ⟨d, rfl⟩ := zi_nat c1.1
      refine ⟨d1 (d1 (d2 (d1 m 3 d (zB b)) 463 0 (if zMar kn (zUp il d b) io d = true then 1 else 0)) 444 25 0) 446 d (zB b), ?_, ?_⟩
      · have h1n : ∀ v, zDm N le kn il io (d2 (d1 m 3 d (zB b)) 463 0 v) := fun v => h1m.to (fun a q1 q2 => by simp (disch := omega) only [zd1_ne, zd1_nk, zd2_1]) (by simp (disch := omega) only [zd1_ne, zd1_nk, zd2_1])
        simp (disch := omega) only [dg_ok g1, dg_ok kF, dg_ok kOut, dg_ok kL463, fX12_thrown_ok, Option.bind_some, dS, dP2, dlet, zcl0, zcmp, zd1_at, zd2_at, zd1_2, zd2_1, zd1_ne, zd1_nk, if_pos, if_neg, if_true, if_false, eq_self, zn10, zn20, zn30, zk13, zk31, zk21, zk23, zk12, zk32, fX11_ill_ok h0 h1 b a1 a2, Int.toNat_natCast, zB_ite]
        cases hz : zMar kn (zUp il d b) io d
        · simp (disch := omega) only [dg_ok g1, dg_ok kF, dg_ok kOut, dg_ok kL463, fX12_thrown_ok, Option.bind_some, dS, dP2, dlet, zcl0, zcmp, zd1_at, zd2_at, zd1_2, zd2_1, zd1_ne, zd1_nk, if_pos, if_neg, if_true, if_false, eq_self, zn10, zn20, zn30, zk13, zk31, zk21, zk23, zk12, zk32, fX12_ill_ok h0 (h1n _) b a1 a2, Int.toNat_natCast, zB_ite, hz, Bool.false_eq_true]
        · simp (disch := omega) only [dg_ok g1, dg_ok kF, dg_ok kOut, dg_ok kL463, fX12_thrown_ok, Option.bind_some, dS, dP2, dlet, zcl0, zcmp, zd1_at, zd2_at, zd1_2, zd2_1, zd1_ne, zd1_nk, if_pos, if_neg, if_true, if_false, eq_self, zn10, zn20, zn30, zk13, zk31, zk21, zk23, zk12, zk32, fX12_ill_ok h0 (h1n _) b a1 a2, Int.toNat_natCast, zB_ite, hz, Bool.false_eq_true]
      · generalize (if zMar kn (zUp il d b) io d = true then (1 : Int64) else 0) = v
        refine ⟨N, S, P, pp, le, kn, zUp il d b, io, sx, sy, so, co, te, lt, go, px, py, lo, hi, cap, pen, h0, (h1.ill d b).to (fun a q1 q2 => by simp (disch := omega) only [zd1_ne, zd1_nk, zd2_1]), ((h1m.to (m' := d1 (d2 (d1 m 3 d (zB b)) 463 0 v) 444 25 0) (fun a q1 q2 => by simp (disch := omega) only [zd1_ne, zd1_nk, zd2_1]) (by simp (disch := omega) only [zd1_ne, zd1_nk, zd2_1])).ill d b), h2, h3.to h2.1 (fun a q1 q2 => by simp (disch := omega) only [zd1_ne, zd1_nk, zd2_1]), h4.to (fun a q1 q2 => by simp (disch := omega) only [zd1_ne, zd1_nk, zd2_1]) (by simp (disch := omega) only [zd1_ne, zd1_nk, zd2_1]), h5, h6.to h5.1 (fun a q1 q2 => by simp (disch := omega) only [zd1_ne, zd1_nk, zd2_1]), h7.to (fun a q1 q2 => by simp (disch := omega) only [zd1_ne, zd1_nk, zd2_1]) (by simp (disch := omega) only [zd1_ne, zd1_nk, zd2_1]), h8, h9.to h8.1 (fun a q1 q2 => by simp (disch := omega) only [zd1_ne, zd1_nk, zd2_1]), h10.to (fun a q1 q2 => by simp (disch := omega) only [zd1_ne, zd1_nk, zd2_1]), h11, h12.to (fun a q1 q2 => by simp (disch := omega) only [zd1_ne, zd1_nk, zd2_1]), h13.to (fun a q1 q2 => by simp (disch := omega) only [zd1_ne, zd1_nk, zd2_1]) (by simp (disch := omega) only [zd1_ne, zd1_nk, zd2_1]) (by simp (disch := omega) only [zd1_ne, zd1_nk, zd2_1])⟩
    · refine ⟨d1 m 444 25 1, ?_, hI.to (fun a h => by simp (disch := omega) only [zd1_ne, zd1_nk, zd2_1]) (fun k h => by simp (disch := omega) only [zd1_ne, zd1_nk, zd2_1])⟩
      simp (disch := omega) only [dg_ok g1, dg_ok kF, dg_ok kOut, dg_ok kL463, fX12_thrown_ok, Option.bind_some, dS, dP2, dlet, zcl0, zcmp, zd1_at, zd2_at, zd1_2, zd2_1, zd1_ne, zd1_nk, if_pos, if_neg, if_true, if_false, eq_self, zn10, zn20, zn30, zk13, zk31, zk21, zk23, zk12, zk32, fX11_ill_ok h0 h1 b a1 a2, fX12_ill_ok h0 h1m b a1 a2]
  unfold fLaw_2
  rw [ea, dg_ok g1, dg_ok g2]
  by_cases c : xs (Int32.toNatClampNeg (i + 2)) = 0
  · simp only [if_pos c, dg_ok g1, dg_ok g2]
    exact key false
  · simp only [if_neg c, dg_ok g1, dg_ok g2]
    exact key true
theorem zDc.know {N : Nat} {le kn : Nat → Int} {il io : Nat → Bool} {m : dM} (h : zDc N le kn il io m) (d : Nat) (z : Int) (b : Bool) : zDc N le (zUp kn d z) il (zUp io d b) (d1 (d1 m 4 d (Int32.ofInt z)) 5 d (zB b)) := by
  refine ⟨by simp (disch := omega) only [zd1_ne, zd1_nk, zd2_1]; exact h.1, fun a ha => by simp (disch := omega) only [zd1_ne, zd1_nk, zd2_1]; exact h.2.1 a ha, fun e he => ?_⟩
  by_cases q : e = d
  · subst q; rw [zUp_at, zUp_at]; simp [d1]
  · rw [zUp_ne q, zUp_ne q]; simp [d1, q]; exact h.2.2 e he
theorem zDm.know {N : Nat} {le kn : Nat → Int} {il io : Nat → Bool} {m : dM} (h : zDm N le kn il io m) (d : Nat) (z : Int) (b : Bool) : zDm N le (zUp kn d z) il (zUp io d b) (d1 (d1 m 447 d (Int32.ofInt z)) 448 d (zB b)) := by
  refine ⟨by simp (disch := omega) only [zd1_ne, zd1_nk, zd2_1]; exact h.1, fun a ha => by simp (disch := omega) only [zd1_ne, zd1_nk, zd2_1]; exact h.2.1 a ha, fun e he => ?_⟩
  by_cases q : e = d
  · subst q; rw [zUp_at, zUp_at]; simp [d1]
  · rw [zUp_ne q, zUp_ne q]; simp [d1, q]; exact h.2.2 e he
theorem fX1_teach_ok {m : dM} {d : Nat} {z : Int32} {b : Bool} (hd : d < 3) : fX1_teach m 1 (Int32.ofInt d) z (zB b) = some (d1 (d1 m 4 d z) 5 d (zB b)) := by
  unfold fX1_teach
  rw [dg_ok kDots, show (0 : Int32) = Int32.ofInt 0 from rfl, show (2 : Int32) = Int32.ofInt 2 from rfl, fX11_isWithin_ok m (by omega) (by omega) (by omega) (by omega) (by omega) (by omega), if_pos (by omega), Option.bind_some, if_neg (by decide), kd4, kd5]
  simp only [dlet]
  rw [dg_ok (dIx_nat hd (by decide)), dg_ok (dIx_nat hd (by decide)), dg_ok (zB_dB b), zi_cn (by omega)]
theorem fX11_alternate_ok {N : Nat} {le kn : Nat → Int} {il io : Nat → Bool} {m : dM} (hr : zDr N le kn) (h : zDc N le kn il io m) {a z : Int} (b : Bool) (h1 : -2147483648 ≤ a) (h2 : a < 2147483648) (h3 : -2147483648 ≤ z) (h4 : z < 2147483648) : fX11_alternate m 0 (Int32.ofInt a) (Int32.ofInt z) (zB b) = if (0 ≤ a ∧ a < 3) ∧ -1 ≤ z ∧ z < N then some (.inr (d1 (d1 m 4 a.toNat (Int32.ofInt z)) 5 a.toNat (zB b))) else some (.inl (3, m)) := by
  have k1 := hr.1; have k2 := hr.2.1
  unfold fX11_alternate
  rw [dg_ok kF, show (3 : Int32) = Int32.ofInt 3 from rfl, fX11_needIndex_ok m h1 h2 (by omega) (by omega)]
  by_cases c1 : 0 ≤ a ∧ a < 3
  · obtain ⟨d, rfl⟩ := zi_nat c1.1
    rw [if_pos c1]
    simp only [Option.bind_some, dS, show (-1 : Int32) = Int32.ofInt (-1) from rfl, zi_eq h3 h4 (show (-2147483648 : Int) ≤ -1 by decide) (show (-1 : Int) < 2147483648 by decide), Int.toNat_natCast]
    by_cases c2 : z = -1
    · rw [if_pos c2, fX1_teach_ok (by omega), if_pos (by omega)]; rfl
    · rw [if_neg c2, fX11_needDot_ok hr h h3 h4]
      by_cases c3 : 0 ≤ z ∧ z < N
      · rw [if_pos c3, if_pos (by omega)]
        simp only [Option.bind_some]
        rw [fX1_teach_ok (by omega)]; rfl
      · rw [if_neg c3, if_neg (by omega)]; rfl
  · rw [if_neg c1, if_neg (fun q => c1 q.1)]; rfl
theorem fX12_alternate_ok {N : Nat} {le kn : Nat → Int} {il io : Nat → Bool} {m : dM} (hr : zDr N le kn) (h : zDm N le kn il io m) {a z : Int} (b : Bool) (h1 : -2147483648 ≤ a) (h2 : a < 2147483648) (h3 : -2147483648 ≤ z) (h4 : z < 2147483648) : fX12_alternate m 444 (Int32.ofInt a) (Int32.ofInt z) (zB b) = if (0 ≤ a ∧ a < 3) ∧ -1 ≤ z ∧ z < N then some (d1 (d1 (d1 m 444 25 0) 447 a.toNat (Int32.ofInt z)) 448 a.toNat (zB b)) else some (d1 m 444 25 1) := by
  have k1 := hr.1; have k2 := hr.2.1
  have e2 : (2 : Int32) = Int32.ofInt 2 := rfl
  unfold fX12_alternate
  rw [dg_ok kM, e2]
  have e := fX12_isIn_ok m h1 h2 (show (-2147483648 : Int) ≤ 0 by decide) (show (0 : Int) < 2147483648 by decide) (show (-2147483648 : Int) ≤ 2 by decide) (show (2 : Int) < 2147483648 by decide)
  rw [show (Int32.ofInt 0) = (0 : Int32) from rfl] at e
  rw [e, Option.bind_some]
  by_cases c1 : 0 ≤ a ∧ a < 3
  · obtain ⟨d, rfl⟩ := zi_nat c1.1
    rw [if_pos (show 0 ≤ (d : Int) ∧ (d : Int) ≤ 2 by omega), if_neg z10]
    simp only [dlet, show (-1 : Int32) = Int32.ofInt (-1) from rfl, zi_eq h3 h4 (show (-2147483648 : Int) ≤ -1 by decide) (show (-1 : Int) < 2147483648 by decide), Int.toNat_natCast]
    rw [kd447, kd448, dg_ok (dIx_nat (by omega) (by decide)), dg_ok (dIx_nat (by omega) (by decide)), dg_ok (zB_dB b), zi_cn (by omega)]
    by_cases c2 : z = -1
    · rw [if_pos c2, if_pos (by omega)]
    · rw [if_neg c2, fX12_isDot_ok hr h h3 h4, Option.bind_some]
      by_cases c3 : 0 ≤ z ∧ z < N
      · rw [if_pos c3, if_neg z10, if_pos (by omega)]
      · rw [if_neg c3, if_pos rfl, if_neg (by omega)]
  · rw [if_neg (show ¬ (0 ≤ a ∧ a ≤ 2) by omega), if_pos rfl, if_neg (fun q => c1 q.1)]; rfl
theorem fLaw_3_ok {xs : Nat → Int32} {nL : Nat} {i : Int32} {m : dM} (hI : zI m) (g1 : dIx (i + 1) nL = true) (g2 : dIx (i + 2) nL = true) (g3 : dIx (i + 3) nL = true) : ∃ m', fLaw_3 xs nL i m = some m' ∧ zI m' := by
  obtain ⟨a, a1, a2, ea⟩ := zi_of (xs (Int32.toNatClampNeg (i + 1)))
  obtain ⟨z, z1, z2, ez⟩ := zi_of (xs (Int32.toNatClampNeg (i + 2)))
  have hI0 := hI
  obtain ⟨N, S, P, pp, le, kn, il, io, sx, sy, so, co, te, lt, go, px, py, lo, hi, cap, pen, h0, h1, h1m, h2, h3, h4, h5, h6, h7, h8, h9, h10, h11, h12, h13⟩ := hI0
  have key : ∀ b : Bool, ∃ m', ((fL_alternate m 0 (Int32.ofInt a) (Int32.ofInt z) (zB b)).bind (fun q => dP2 q (fun v3 m2 => (fX12_alternate m2 444 (Int32.ofInt a) (Int32.ofInt z) (zB b)).bind (fun m5 => (fX12_thrown m5 444).bind (fun v7 => if v7 = v3 then some m5 else none))))) = some m' ∧ zI m' := by
    intro b
    unfold fL_alternate
    have k2 := h0.2.1
    by_cases c1 : (0 ≤ a ∧ a < 3) ∧ -1 ≤ z ∧ z < N
    · obtain ⟨d, rfl⟩ := zi_nat c1.1.1
      refine ⟨d1 (d1 (d1 (d1 (d1 m 4 d (Int32.ofInt z)) 5 d (zB b)) 444 25 0) 447 d (Int32.ofInt z)) 448 d (zB b), ?_, ?_⟩
      · have h1n : zDm N le kn il io (d1 (d1 m 4 d (Int32.ofInt z)) 5 d (zB b)) := h1m.to (fun a q1 q2 => by simp (disch := omega) only [zd1_ne, zd1_nk, zd2_1]) (by simp (disch := omega) only [zd1_ne, zd1_nk, zd2_1])
        simp (disch := omega) only [dg_ok g1, dg_ok kF, dg_ok kOut, dg_ok kL463, fX12_thrown_ok, Option.bind_some, dS, dP2, dlet, zcl0, zcmp, zd1_at, zd2_at, zd1_2, zd2_1, zd1_ne, zd1_nk, if_pos, if_neg, if_true, if_false, eq_self, zn10, zn20, zn30, zk13, zk31, zk21, zk23, zk12, zk32, fX11_alternate_ok h0 h1 b a1 a2 z1 z2, fX12_alternate_ok h0 h1n b a1 a2 z1 z2, Int.toNat_natCast]
      · refine ⟨N, S, P, pp, le, zUp kn d z, il, zUp io d b, sx, sy, so, co, te, lt, go, px, py, lo, hi, cap, pen, ⟨h0.1, h0.2.1, h0.2.2.1, fun e he => ?_⟩, (h1.know d z b).to (fun a q1 q2 => by simp (disch := omega) only [zd1_ne, zd1_nk, zd2_1]), ((h1m.to (m' := d1 (d1 (d1 m 4 d (Int32.ofInt z)) 5 d (zB b)) 444 25 0) (fun a q1 q2 => by simp (disch := omega) only [zd1_ne, zd1_nk, zd2_1]) (by simp (disch := omega) only [zd1_ne, zd1_nk, zd2_1])).know d z b), h2, h3.to h2.1 (fun a q1 q2 => by simp (disch := omega) only [zd1_ne, zd1_nk, zd2_1]), h4.to (fun a q1 q2 => by simp (disch := omega) only [zd1_ne, zd1_nk, zd2_1]) (by simp (disch := omega) only [zd1_ne, zd1_nk, zd2_1]), h5, h6.to h5.1 (fun a q1 q2 => by simp (disch := omega) only [zd1_ne, zd1_nk, zd2_1]), h7.to (fun a q1 q2 => by simp (disch := omega) only [zd1_ne, zd1_nk, zd2_1]) (by simp (disch := omega) only [zd1_ne, zd1_nk, zd2_1]), h8, h9.to h8.1 (fun a q1 q2 => by simp (disch := omega) only [zd1_ne, zd1_nk, zd2_1]), h10.to (fun a q1 q2 => by simp (disch := omega) only [zd1_ne, zd1_nk, zd2_1]), h11, h12.to (fun a q1 q2 => by simp (disch := omega) only [zd1_ne, zd1_nk, zd2_1]), h13.to (fun a q1 q2 => by simp (disch := omega) only [zd1_ne, zd1_nk, zd2_1]) (by simp (disch := omega) only [zd1_ne, zd1_nk, zd2_1]) (by simp (disch := omega) only [zd1_ne, zd1_nk, zd2_1])⟩
        unfold zUp; split
        · omega
        · exact h0.2.2.2 e he
    · refine ⟨d1 m 444 25 1, ?_, hI.to (fun a h => by simp (disch := omega) only [zd1_ne, zd1_nk, zd2_1]) (fun k h => by simp (disch := omega) only [zd1_ne, zd1_nk, zd2_1])⟩
      simp (disch := omega) only [dg_ok g1, dg_ok kF, dg_ok kOut, dg_ok kL463, fX12_thrown_ok, Option.bind_some, dS, dP2, dlet, zcl0, zcmp, zd1_at, zd2_at, zd1_2, zd2_1, zd1_ne, zd1_nk, if_pos, if_neg, if_true, if_false, eq_self, zn10, zn20, zn30, zk13, zk31, zk21, zk23, zk12, zk32, fX11_alternate_ok h0 h1 b a1 a2 z1 z2, fX12_alternate_ok h0 h1m b a1 a2 z1 z2]
  unfold fLaw_3
  rw [ea, ez, dg_ok g1, dg_ok g2, dg_ok g3]
  by_cases c : xs (Int32.toNatClampNeg (i + 3)) = 0
  · simp only [if_pos c, dg_ok g1, dg_ok g2, dg_ok g3]
    exact key false
  · simp only [if_neg c, dg_ok g1, dg_ok g2, dg_ok g3]
    exact key true
theorem zFl {m : dM} {a b x : Nat} {v w : Int32} {n : Nat} (h1 : x ≠ a) (h2 : x ≠ b) : (dFill m a b v w n).1 x = m.1 x := by funext j; simp [dFill, h1, h2]
theorem fX11_band_ok {N S : Nat} {sx sy : Nat → Nat → Int} {m : dM} (hS : S ≤ 12) (h : zSc N S sx sy m) {a : Int} (h1 : -2147483648 ≤ a) (h2 : a < 2147483648) : fX11_band m 0 (Int32.ofInt a) = if 2 ≤ a ∧ a ≤ 10 then if S = 0 then some (.inr (dBegin m (Int32.ofInt a))) else some (.inl (2, m)) else some (.inl (1, m)) := by
  unfold fX11_band fX7_number
  rw [dg_ok kF, show (2 : Int32) = Int32.ofInt 2 from rfl, show (10 : Int32) = Int32.ofInt 10 from rfl, fX11_needRange_ok m h1 h2 (by omega) (by omega) (by omega) (by omega)]
  by_cases c : 2 ≤ a ∧ a ≤ 10
  · rw [if_pos c, if_pos c]
    simp only [Option.bind_some, dS]
    rw [dg_ok kSets, h.1, Option.bind_some]
    simp (disch := omega) only [zi_lit, zi_le]
    by_cases c2 : S = 0
    · rw [if_pos (by omega), if_pos c2, fX1_begin_eq]
      simp only [zi_lit]
      rw [if_neg (by rw [zi_lt (by omega) (by omega) (by omega) (by omega)]; omega)]
      rfl
    · rw [if_neg (by omega), if_neg c2]
  · rw [if_neg c, if_neg c]; rfl
theorem fX12_band_ok {N S : Nat} {sx sy : Nat → Nat → Int} {m : dM} (hS : S ≤ 12) (h : zSm N S sx sy m) {a : Int} (h1 : -2147483648 ≤ a) (h2 : a < 2147483648) : fX12_band m 444 (Int32.ofInt a) = if 2 ≤ a ∧ a ≤ 10 then if S = 0 then some (dBegins (d1 (d1 m 444 25 0) 444 0 (Int32.ofInt a))) else some (d1 m 444 25 2) else some (d1 m 444 25 1) := by
  have e2 : (2 : Int32) = Int32.ofInt 2 := rfl
  have e := fX12_isIn_ok m h1 h2 (show (-2147483648 : Int) ≤ 2 by decide) (show (2 : Int) < 2147483648 by decide) (show (-2147483648 : Int) ≤ 10 by decide) (show (10 : Int) < 2147483648 by decide)
  rw [show (Int32.ofInt 2) = (2 : Int32) from rfl, show (Int32.ofInt 10) = (10 : Int32) from rfl] at e
  unfold fX12_band
  rw [dg_ok kM, e, Option.bind_some, h.1]
  have e0 : (Int32.ofInt (S : Int) ≤ 0) = (S = 0) := by
    rw [show (0 : Int32) = Int32.ofInt 0 from rfl, zi_le (by omega) (by omega) (by omega) (by omega)]
    exact propext ⟨fun q => by omega, fun q => by omega⟩
  simp only [e0, dlet]
  by_cases c : 2 ≤ a ∧ a ≤ 10
  · rw [if_pos c, if_pos c, if_neg z10]
    by_cases c2 : S = 0
    · rw [if_pos c2, if_pos c2, fX12_begins_eq]; rfl
    · rw [if_neg c2, if_neg c2]
  · rw [if_neg c, if_neg c, if_pos rfl]
theorem fLaw_0_ok {xs : Nat → Int32} {nL : Nat} {i : Int32} {m : dM} (hI : zI m) (g1 : dIx (i + 1) nL = true) : ∃ m', fLaw_0 xs nL i m = some m' ∧ zI m' := by
  obtain ⟨a, a1, a2, ea⟩ := zi_of (xs (Int32.toNatClampNeg (i + 1)))
  have hI0 := hI
  obtain ⟨N, S, P, pp, le, kn, il, io, sx, sy, so, co, te, lt, go, px, py, lo, hi, cap, pen, h0, h1, h1m, h2, h3, h4, h5, h6, h7, h8, h9, h10, h11, h12, h13⟩ := hI0
  unfold fLaw_0 fL_band
  rw [ea]
  by_cases c1 : 2 ≤ a ∧ a ≤ 10
  · by_cases c2 : S = 0
    · subst c2
      obtain ⟨M, rfl⟩ := zi_nat (show 0 ≤ a by omega)
      obtain rfl : P = 0 := by
        rcases Nat.eq_zero_or_pos P with q | q
        · exact q
        · exact absurd (h5.2 0 q).1 (by omega)
      obtain rfl : pp = 0 := by
        rcases Nat.eq_zero_or_pos pp with q | q
        · exact q
        · exact absurd (h8.2.1 q) (by omega)
      have h4n : zSm N 0 sx sy (dBegin m (Int32.ofInt M)) := h4.to (fun a q1 q2 => by unfold dBegin; rw [zFl (by omega) (by omega), zFl (by omega) (by omega), zd1_ne (by omega)]) (by unfold dBegin; rw [zFl (by omega) (by omega), zFl (by omega) (by omega), zd1_ne (by omega)])
      have fr : ∀ x, 6 ≤ x → (x ≤ 443 ∨ 449 ≤ x) → (dBegins (d1 (d1 (dBegin m (Int32.ofInt M)) 444 25 0) 444 0 (Int32.ofInt M))).1 x = m.1 x := by
        intro x q1 q2
        unfold dBegins dBegin
        rw [zFl (by omega) (by omega), zFl (by omega) (by omega), zd1_ne (by omega), zd1_ne (by omega), zFl (by omega) (by omega), zFl (by omega) (by omega), zd1_ne (by omega)]
      have fr4 : ∀ k, k ≠ 0 → k ≠ 25 → (dBegins (d1 (d1 (dBegin m (Int32.ofInt M)) 444 25 0) 444 0 (Int32.ofInt M))).1 444 k = m.1 444 k := by
        intro k q1 q2
        unfold dBegins dBegin
        rw [zFl (by omega) (by omega), zFl (by omega) (by omega), zd1_nk (by omega), zd1_nk (by omega), zFl (by omega) (by omega), zFl (by omega) (by omega), zd1_ne (by omega)]
      refine ⟨dBegins (d1 (d1 (dBegin m (Int32.ofInt M)) 444 25 0) 444 0 (Int32.ofInt M)), ?_, ?_⟩
      · simp (disch := omega) only [dg_ok g1, dg_ok kF, dg_ok kOut, dg_ok kL463, fX12_thrown_ok, Option.bind_some, dS, dP2, dlet, zcl0, zcmp, zd1_at, zd2_at, zd1_2, zd2_1, zd1_ne, zd1_nk, if_pos, if_neg, if_true, if_false, eq_self, zn10, zn20, zn30, zk13, zk31, zk21, zk23, zk12, zk32, fX11_band_ok h2.1 h3, fX12_band_ok h2.1 h4n]
        rw [if_pos (by simp [dBegins, dFill, d1])]
      · refine ⟨M, 0, 0, 0, fun _ => 14, fun _ => -1, fun _ => false, fun _ => false, sx, sy, so, co, te, lt, go, px, py, lo, hi, cap, pen, ⟨by omega, by omega, fun _ _ => ⟨show (5 : Int) ≤ 14 by decide, show (14 : Int) ≤ 40 by decide⟩, fun _ _ => ⟨show (-1 : Int) ≤ -1 by decide, show (-1 : Int) < 10 by decide⟩⟩, ⟨by simp [dBegins, dBegin, dFill, d1], fun d hd => by simp [dBegins, dBegin, dFill, d1, hd]; rfl, fun d hd => by simp [dBegins, dBegin, dFill, d1, hd]; rfl⟩, ⟨by simp [dBegins, dBegin, dFill, d1], fun d hd => by simp [dBegins, dBegin, dFill, d1, hd]; rfl, fun d hd => by simp [dBegins, dBegin, dFill, d1, hd]; rfl⟩, ⟨by omega, fun s hs => absurd hs (by omega)⟩, ⟨by rw [fr 6 (by omega) (by omega)]; exact h3.1, fun s hs => absurd hs (by omega)⟩, ⟨by rw [fr4 5 (by omega) (by omega)]; exact h4.1, fun s hs => absurd hs (by omega)⟩, ⟨by omega, fun s hs => absurd hs (by omega)⟩, ⟨by rw [fr 47 (by omega) (by omega)]; exact h6.1, fun s hs => absurd hs (by omega)⟩, ⟨by rw [fr4 8 (by omega) (by omega)]; exact h7.1, fun s hs => absurd hs (by omega)⟩, ⟨by omega, fun s => absurd s (by omega), fun s hs => absurd hs (by omega)⟩, ⟨by rw [fr 394 (by omega) (by omega)]; exact h9.1, fun s hs => absurd hs (by omega)⟩, ⟨fun i hi d hd => ?_, fun s hs => absurd hs (by omega)⟩, h11, h12.to (fun a q1 q2 => fr a (by omega) (by omega)), h13.to (fun a q1 q2 => fr a (by omega) (by omega)) (fr4 17 (by omega) (by omega)) (fr4 18 (by omega) (by omega))⟩
        rw [fr 458 (by omega) (by omega), h10.1 i hi d hd]
        simp
    · refine ⟨d1 m 444 25 2, ?_, hI.to (fun a h => by simp (disch := omega) only [zd1_ne, zd1_nk, zd2_1]) (fun k h => by simp (disch := omega) only [zd1_ne, zd1_nk, zd2_1])⟩
      simp (disch := omega) only [dg_ok g1, dg_ok kF, dg_ok kOut, dg_ok kL463, fX12_thrown_ok, Option.bind_some, dS, dP2, dlet, zcl0, zcmp, zd1_at, zd2_at, zd1_2, zd2_1, zd1_ne, zd1_nk, if_pos, if_neg, if_true, if_false, eq_self, zn10, zn20, zn30, zk13, zk31, zk21, zk23, zk12, zk32, fX11_band_ok h2.1 h3, fX12_band_ok h2.1 h4]
  · refine ⟨d1 m 444 25 1, ?_, hI.to (fun a h => by simp (disch := omega) only [zd1_ne, zd1_nk, zd2_1]) (fun k h => by simp (disch := omega) only [zd1_ne, zd1_nk, zd2_1])⟩
    simp (disch := omega) only [dg_ok g1, dg_ok kF, dg_ok kOut, dg_ok kL463, fX12_thrown_ok, Option.bind_some, dS, dP2, dlet, zcl0, zcmp, zd1_at, zd2_at, zd1_2, zd2_1, zd1_ne, zd1_nk, if_pos, if_neg, if_true, if_false, eq_self, zn10, zn20, zn30, zk13, zk31, zk21, zk23, zk12, zk32, fX11_band_ok h2.1 h3, fX12_band_ok h2.1 h4]
