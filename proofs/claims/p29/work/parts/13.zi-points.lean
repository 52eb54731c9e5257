theorem kCap {b : Nat} (h : b < 6) : dkg (436 + 1 + b) 20 = true ∧ dL (436 + 1 + b) = 4 := by
  have : ∀ b : Fin 6, dkg (436 + 1 + b.val) 20 = true ∧ dL (436 + 1 + b.val) = 4 := by decide +kernel
  exact this ⟨b, h⟩
theorem kd436 : dL 436 = 6 := by decide +kernel
theorem kd443 : dL 443 = 6 := by decide +kernel
/-- how far the show is outside of its time -/
def zOut2 (lo hi T : Int) : Int := if T < lo then lo - T else if hi < T then T - hi else 0
def zPts (lo hi : Int) (cap : Nat → Nat → Int) (pen : Nat → Int) (T : Int) (b : Nat) : Int :=
  let s := (2 * cap b 0 + 2 * cap b 1 + cap b 2 + cap b 3) / 6 - pen b - (if b = 0 then (zOut2 lo hi T + 29) / 30 else 0)
  if 0 ≤ s then s else 0
theorem fX0_lossByClock_ok {lo hi T : Int} {cap : Nat → Nat → Int} {pen : Nat → Int} {m : dM} (hr : zCr lo hi cap pen) (h : zCc lo hi cap pen m) (hT : 0 ≤ T) (hT' : T ≤ 10000) : fX0_lossByClock m 435 (Int32.ofInt T) = some (Int32.ofInt ((zOut2 lo hi T + 29) / 30)) := by
  obtain ⟨r1, r2, r3, r4⟩ := hr
  unfold fX0_lossByClock
  rw [dg_ok kCon, h.1, h.2.1]
  have e : (if (if Int32.ofInt lo - Int32.ofInt T < Int32.ofInt T - Int32.ofInt hi then Int32.ofInt T - Int32.ofInt hi else Int32.ofInt lo - Int32.ofInt T) < 0 then 0 else (if Int32.ofInt lo - Int32.ofInt T < Int32.ofInt T - Int32.ofInt hi then Int32.ofInt T - Int32.ofInt hi else Int32.ofInt lo - Int32.ofInt T)) = Int32.ofInt (zOut2 lo hi T) := by
    rw [show (0 : Int32) = Int32.ofInt 0 from rfl]
    simp only [zi_sub]
    unfold zOut2
    rcases (show T < lo ∨ (lo ≤ T ∧ T ≤ hi) ∨ hi < T by omega) with c | c | c
    · have c2 : ¬ (Int32.ofInt (lo - T) < Int32.ofInt (T - hi)) := by rw [zi_lt (by omega) (by omega) (by omega) (by omega)]; omega
      have c3 : ¬ (Int32.ofInt (lo - T) < Int32.ofInt 0) := by rw [zi_lt (by omega) (by omega) (by omega) (by omega)]; omega
      rw [if_neg c2, if_neg c3, if_pos c]
    · rw [if_neg (show ¬ T < lo by omega), if_neg (show ¬ hi < T by omega)]
      by_cases c2 : lo - T < T - hi
      · have c4 : Int32.ofInt (lo - T) < Int32.ofInt (T - hi) := by rw [zi_lt (by omega) (by omega) (by omega) (by omega)]; omega
        rw [if_pos c4]
        by_cases c5 : T - hi < 0
        · rw [if_pos (by rw [zi_lt (by omega) (by omega) (by omega) (by omega)]; omega)]
        · rw [if_neg (by rw [zi_lt (by omega) (by omega) (by omega) (by omega)]; omega)]; congr 1; omega
      · have c4 : ¬ Int32.ofInt (lo - T) < Int32.ofInt (T - hi) := by rw [zi_lt (by omega) (by omega) (by omega) (by omega)]; omega
        rw [if_neg c4]
        by_cases c5 : lo - T < 0
        · rw [if_pos (by rw [zi_lt (by omega) (by omega) (by omega) (by omega)]; omega)]
        · rw [if_neg (by rw [zi_lt (by omega) (by omega) (by omega) (by omega)]; omega)]; congr 1; omega
    · have c2 : Int32.ofInt (lo - T) < Int32.ofInt (T - hi) := by rw [zi_lt (by omega) (by omega) (by omega) (by omega)]; omega
      have c3 : ¬ (Int32.ofInt (T - hi) < Int32.ofInt 0) := by rw [zi_lt (by omega) (by omega) (by omega) (by omega)]; omega
      rw [if_pos c2, if_neg c3, if_neg (by omega), if_pos c]
  have b : 0 ≤ zOut2 lo hi T ∧ zOut2 lo hi T ≤ 10000 := by unfold zOut2; split; omega; split <;> omega
  rw [e]
  simp only [dlet]
  have e2 : Int32.ofInt (zOut2 lo hi T) + 30 - 1 = Int32.ofInt (zOut2 lo hi T + 29) := by rw [show (30 : Int32) = Int32.ofInt 30 from rfl, show (1 : Int32) = Int32.ofInt 1 from rfl, zi_add, zi_sub]; congr 1; omega
  rw [e2, show (30 : Int32) = Int32.ofInt 30 from rfl, fX11_downBy_ok m (by omega) (by omega) (by omega) (by omega)]
  rfl
theorem fX0_points_ok {lo hi T : Int} {cap : Nat → Nat → Int} {pen : Nat → Int} {m : dM} (hr : zCr lo hi cap pen) (h : zCc lo hi cap pen m) (hT : 0 ≤ T) (hT' : T ≤ 10000) {b : Nat} (hb : b < 6) : fX0_points m 435 (Int32.ofInt b) (Int32.ofInt T) = some (Int32.ofInt (zPts lo hi cap pen T b)) := by
  obtain ⟨r1, r2, r3, r4⟩ := id hr
  obtain ⟨k1, k2⟩ := kCap hb
  obtain ⟨p1, p2, q⟩ := r4 b hb
  have q0 := q 0 (by decide); have q1 := q 1 (by decide); have q2 := q 2 (by decide); have q3 := q 3 (by decide)
  obtain ⟨hp, hc⟩ := h.2.2 b hb
  have w0 := hc 0 (by decide); have w1 := hc 1 (by decide); have w2 := hc 2 (by decide); have w3 := hc 3 (by decide)
  have bo : 0 ≤ zOut2 lo hi T ∧ zOut2 lo hi T ≤ 10000 := by unfold zOut2; split; omega; split <;> omega
  unfold fX0_points
  rw [dg_ok kCon, show (0 : Int32) = Int32.ofInt 0 from rfl, show (5 : Int32) = Int32.ofInt 5 from rfl, fX11_isWithin_ok m (by omega) (by omega) (by omega) (by omega) (by omega) (by omega), if_pos (by omega), Option.bind_some, if_neg (show ¬ (1 : Int32) = Int32.ofInt 0 by decide), kd436, zi_cn (by omega), k2, kd443, dg_ok (dIx_nat hb (by decide)), dg_ok k1, dg_ok (show dIx (Int32.ofInt 0) 4 = true by decide), dg_ok (dIx_nat hb (by decide)), dg_ok k1, dg_ok (show dIx 1 4 = true by decide), dg_ok (dIx_nat hb (by decide)), dg_ok k1, dg_ok (show dIx 2 4 = true by decide), dg_ok (dIx_nat hb (by decide)), dg_ok k1, dg_ok (show dIx 3 4 = true by decide)]
  rw [show Int32.toNatClampNeg (Int32.ofInt 0) = 0 from by decide, show Int32.toNatClampNeg 1 = 1 from by decide, show Int32.toNatClampNeg 2 = 2 from by decide, show Int32.toNatClampNeg 3 = 3 from by decide, show m.1 (436 + 1 + b) 0 = Int32.ofInt (cap b 0) from w0, show m.1 (436 + 1 + b) 1 = Int32.ofInt (cap b 1) from w1, show m.1 (436 + 1 + b) 2 = Int32.ofInt (cap b 2) from w2, show m.1 (436 + 1 + b) 3 = Int32.ofInt (cap b 3) from w3, hp, show (2 : Int32) = Int32.ofInt 2 from rfl, show (6 : Int32) = Int32.ofInt 6 from rfl]
  simp only [zi_mul, zi_add, dlet, dg_ok (dIx_nat hb (show 6 ≤ 1024 by decide))]
  rw [fX11_downBy_ok m (by omega) (by omega) (by omega) (by omega)]
  have fin : ∀ l : Int, 0 ≤ l → l ≤ 10000 → (if Int32.ofInt ((2 * cap b 0 + 2 * cap b 1 + cap b 2 + cap b 3) / 6) - Int32.ofInt (pen b) - Int32.ofInt l < Int32.ofInt 0 then Int32.ofInt 0 else Int32.ofInt ((2 * cap b 0 + 2 * cap b 1 + cap b 2 + cap b 3) / 6) - Int32.ofInt (pen b) - Int32.ofInt l) = Int32.ofInt (if 0 ≤ (2 * cap b 0 + 2 * cap b 1 + cap b 2 + cap b 3) / 6 - pen b - l then (2 * cap b 0 + 2 * cap b 1 + cap b 2 + cap b 3) / 6 - pen b - l else 0) := by
    intro l l1 l2
    simp only [zi_sub]
    by_cases c : 0 ≤ (2 * cap b 0 + 2 * cap b 1 + cap b 2 + cap b 3) / 6 - pen b - l
    · rw [if_pos c, if_neg (by rw [zi_lt (by omega) (by omega) (by omega) (by omega)]; omega)]
    · rw [if_neg c, if_pos (by rw [zi_lt (by omega) (by omega) (by omega) (by omega)]; omega)]
  unfold zPts
  by_cases c : b = 0
  · subst c
    rw [if_pos (show Int32.ofInt ((0 : Nat) : Int) = Int32.ofInt 0 from rfl), fX0_lossByClock_ok hr h hT hT']
    simp only [Option.bind_some]
    rw [fin _ (by omega) (by omega)]
    rfl
  · rw [if_neg (show ¬ Int32.ofInt (b : Int) = Int32.ofInt 0 by rw [zi_eq (by omega) (by omega) (by omega) (by omega)]; omega)]
    simp only [Option.bind_some, if_neg c]
    rw [fin 0 (by omega) (by omega)]
