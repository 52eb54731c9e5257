theorem zi_nz2 : True := trivial
theorem zi_4 (b k : Nat) : (4 : Int32) * Int32.ofInt b + Int32.ofInt k = Int32.ofInt (4 * b + k : Nat) := by
  rw [show (4 : Int32) = Int32.ofInt 4 from rfl, zi_mul, zi_add]; congr 1

theorem dlet_v {α β : Type} (x : α) (f : α → Option β) : dlet x f = f x := rfl
theorem fX12_points_ok {N S P : Nat} {sx sy : Nat → Nat → Int} {so : Nat → Nat} {co te : Nat → Int} {lt : Nat → Bool} {go : Nat → Nat → Nat} {lo hi : Int} {cap : Nat → Nat → Int} {pen : Nat → Int} {m : dM} (hpr : zPr N S P sx sy so co te lt go) (hpm : zPm N P so co te lt go m) (hr : zCr lo hi cap pen) (h : zCm lo hi cap pen m) {b : Nat} (hb : b < 6) : fX12_points m 444 (Int32.ofInt b) = some (Int32.ofInt (zPts lo hi cap pen (zTime co te P) b)) := by
  obtain ⟨r1, r2, r3, r4⟩ := id hr
  obtain ⟨p1, p2, q⟩ := r4 b hb
  have q0 := q 0 (by decide); have q1 := q 1 (by decide); have q2 := q 2 (by decide); have q3 := q 3 (by decide)
  obtain ⟨hp, hc⟩ := h.2.2 b hb
  have w0 := hc 0 (by decide); have w1 := hc 1 (by decide); have w2 := hc 2 (by decide); have w3 := hc 3 (by decide)
  have hT := zTime_le (co := co) (te := te) P (fun i hi => by obtain ⟨a1, a2, a3, a4, a5, a6⟩ := hpr.2 i hi; exact ⟨a2, a3, a4⟩)
  have hP := hpr.1
  have e0 : (4 : Int32) * Int32.ofInt b = Int32.ofInt (4 * b + 0 : Nat) := by rw [show (4 : Int32) = Int32.ofInt 4 from rfl, zi_mul]; congr 1
  have ea : ∀ k : Nat, Int32.ofInt ((4 * b + 0 : Nat) : Int) + Int32.ofInt (k : Int) = Int32.ofInt ((4 * b + k : Nat) : Int) := fun k => by rw [zi_add]; congr 1
  unfold fX12_points
  rw [dg_ok kM, fX12_time_ok hpr hpm, Option.bind_some, h.1, h.2.1]
  generalize zTime co te P = T at *
  have bo : 0 ≤ zOut2 lo hi T ∧ zOut2 lo hi T ≤ 10000 := by unfold zOut2; split; omega; split <;> omega
  have fin : ∀ z : Int32, z = Int32.ofInt (zOut2 lo hi T) → (dlet (4 * Int32.ofInt b : Int32) (fun v3 => dg (dIx v3 (dL 459)) (dg (dIx (v3 + 1) (dL 459)) (dg (dIx (v3 + 2) (dL 459)) (dg (dIx (v3 + 3) (dL 459)) (dg (dIx (Int32.ofInt b) (dL 460)) (if Int32.ofInt b = 0 then dlet ((((((2 * ((m.1 459 (Int32.toNatClampNeg (v3))) + (m.1 459 (Int32.toNatClampNeg (v3 + 1))))) + (m.1 459 (Int32.toNatClampNeg (v3 + 2)))) + (m.1 459 (Int32.toNatClampNeg (v3 + 3)))) / 6) - (m.1 460 (Int32.toNatClampNeg (Int32.ofInt b)))) - ((z + 29) / 30) : Int32) (fun v5 => if 0 ≤ v5 then some v5 else some 0) else dlet ((((((2 * ((m.1 459 (Int32.toNatClampNeg (v3))) + (m.1 459 (Int32.toNatClampNeg (v3 + 1))))) + (m.1 459 (Int32.toNatClampNeg (v3 + 2)))) + (m.1 459 (Int32.toNatClampNeg (v3 + 3)))) / 6) - (m.1 460 (Int32.toNatClampNeg (Int32.ofInt b)))) - 0 : Int32) (fun v4 => if 0 ≤ v4 then some v4 else some 0)))))))) = some (Int32.ofInt (zPts lo hi cap pen T b)) := by
    intro z hz
    subst hz
    rw [e0]
    simp only [dlet]
    rw [show (1 : Int32) = Int32.ofInt (1 : Nat) from rfl, show (2 : Int32) = Int32.ofInt (2 : Nat) from rfl, show (3 : Int32) = Int32.ofInt (3 : Nat) from rfl, ea, ea, ea, kd459, kd460, dg_ok (dIx_nat (by omega) (by decide)), dg_ok (dIx_nat (by omega) (by decide)), dg_ok (dIx_nat (by omega) (by decide)), dg_ok (dIx_nat (by omega) (by decide)), dg_ok (dIx_nat (by omega) (by decide)), zi_cn (by omega), zi_cn (by omega), zi_cn (by omega), zi_cn (by omega), zi_cn (by omega), w0, w1, w2, w3, hp]
    have eq6 : (Int32.ofInt ((2 : Nat) : Int) * (Int32.ofInt (cap b 0) + Int32.ofInt (cap b 1)) + Int32.ofInt (cap b 2) + Int32.ofInt (cap b 3)) / 6 = Int32.ofInt ((2 * cap b 0 + 2 * cap b 1 + cap b 2 + cap b 3) / 6) := by
      rw [zi_add, zi_mul, zi_add, zi_add, show (6 : Int32) = Int32.ofInt 6 from rfl, zi_dn (by omega) (by omega) (by omega) (by omega)]
      congr 2; omega
    have e30 : (Int32.ofInt (zOut2 lo hi T) + 29) / 30 = Int32.ofInt ((zOut2 lo hi T + 29) / 30) := by
      rw [show (29 : Int32) = Int32.ofInt 29 from rfl, show (30 : Int32) = Int32.ofInt 30 from rfl, zi_add, zi_dn (by omega) (by omega) (by omega) (by omega)]
    rw [eq6, e30, zi_sub]
    simp only [zi_nz (show b < 2147483648 by omega)]
    rw [show (0 : Int32) = Int32.ofInt 0 from rfl]
    simp only [zi_sub]
    have le0 : ∀ x : Int, -100000 ≤ x → x ≤ 100000 → ((Int32.ofInt 0 ≤ Int32.ofInt x) = (0 ≤ x)) := fun x x1 x2 => zi_le (by omega) (by omega) (by omega) (by omega)
    unfold zPts
    by_cases c : b = 0
    · simp only [if_pos c]
      simp only [le0 ((2 * cap b 0 + 2 * cap b 1 + cap b 2 + cap b 3) / 6 - pen b - (zOut2 lo hi T + 29) / 30) (by omega) (by omega)]
      split <;> rfl
    · simp only [if_neg c]
      simp only [le0 ((2 * cap b 0 + 2 * cap b 1 + cap b 2 + cap b 3) / 6 - pen b - 0) (by omega) (by omega)]
      split <;> rfl
  have l1 : (Int32.ofInt lo ≤ Int32.ofInt T) = (lo ≤ T) := zi_le (by omega) (by omega) (by omega) (by omega)
  have l2 : (Int32.ofInt T ≤ Int32.ofInt hi) = (T ≤ hi) := zi_le (by omega) (by omega) (by omega) (by omega)
  simp only [l1, l2]
  by_cases c1 : lo ≤ T
  · rw [if_pos c1]
    by_cases c2 : T ≤ hi
    · rw [if_pos c2]
      exact fin 0 (by unfold zOut2; rw [if_neg (by omega), if_neg (by omega)]; rfl)
    · rw [if_neg c2]
      rw [dlet_v]; exact fin (Int32.ofInt T - Int32.ofInt hi) (by unfold zOut2; rw [if_neg (by omega), if_pos (by omega), zi_sub])
  · rw [if_neg c1]
    rw [dlet_v]; exact fin (Int32.ofInt lo - Int32.ofInt T) (by unfold zOut2; rw [if_pos (by omega), zi_sub])
/-! judge, penalty -/
def zCap (cap : Nat → Nat → Int) (b c : Nat) (v : Int) : Nat → Nat → Int := fun x y => if x = b ∧ y = c then v else cap x y
theorem zCr.cap {lo hi : Int} {cap : Nat → Nat → Int} {pen : Nat → Int} (h : zCr lo hi cap pen) (b c : Nat) {v : Int} (h1 : 0 ≤ v) (h2 : v ≤ 1000) : zCr lo hi (zCap cap b c v) pen := by
  refine ⟨h.1, h.2.1, h.2.2.1, fun x hx => ?_⟩
  obtain ⟨p1, p2, q⟩ := h.2.2.2 x hx
  refine ⟨p1, p2, fun y hy => ?_⟩
  unfold zCap
  by_cases e : x = b ∧ y = c
  · rw [if_pos e]; exact ⟨h1, h2⟩
  · rw [if_neg e]; exact q y hy
theorem zCc.cap {lo hi : Int} {cap : Nat → Nat → Int} {pen : Nat → Int} {m : dM} (h : zCc lo hi cap pen m) {b c : Nat} (hb : b < 6) {v : Int} : zCc lo hi (zCap cap b c v) pen (d1 m (436 + 1 + b) c (Int32.ofInt v)) := by
  refine ⟨by rw [zd1_ne (by omega)]; exact h.1, by rw [zd1_ne (by omega)]; exact h.2.1, fun x hx => ⟨by rw [zd1_ne (by omega)]; exact (h.2.2 x hx).1, fun y hy => ?_⟩⟩
  have q := (h.2.2 x hx).2 y hy
  unfold zCap
  by_cases e : x = b
  · subst e
    by_cases e2 : y = c
    · subst e2; rw [if_pos ⟨rfl, rfl⟩]; exact zd1_at
    · rw [if_neg (fun z => e2 z.2), ← q]; exact zd1_nk e2
  · rw [if_neg (fun z => e z.1), ← q]; exact congrFun (zd1_ne (by omega)) y
theorem zCm.cap {lo hi : Int} {cap : Nat → Nat → Int} {pen : Nat → Int} {m : dM} (h : zCm lo hi cap pen m) {b c : Nat} (hb : b < 6) (hc : c < 4) {v : Int} : zCm lo hi (zCap cap b c v) pen (d1 m 459 (4 * b + c) (Int32.ofInt v)) := by
  refine ⟨by rw [zd1_ne (by omega)]; exact h.1, by rw [zd1_ne (by omega)]; exact h.2.1, fun x hx => ⟨by rw [zd1_ne (by omega)]; exact (h.2.2 x hx).1, fun y hy => ?_⟩⟩
  have q := (h.2.2 x hx).2 y hy
  unfold zCap
  by_cases e : x = b ∧ y = c
  · obtain ⟨rfl, rfl⟩ := e
    rw [if_pos ⟨rfl, rfl⟩]; exact zd1_at
  · rw [if_neg e, ← q]; exact zd1_nk (by omega)
theorem zCr.pen {lo hi : Int} {cap : Nat → Nat → Int} {pen : Nat → Int} (h : zCr lo hi cap pen) (b : Nat) {v : Int} (h1 : 0 ≤ v) (h2 : v ≤ 1000) : zCr lo hi cap (zUp pen b v) := by
  refine ⟨h.1, h.2.1, h.2.2.1, fun x hx => ?_⟩
  obtain ⟨p1, p2, q⟩ := h.2.2.2 x hx
  refine ⟨?_, ?_, q⟩ <;> unfold zUp <;> split <;> assumption
theorem zCc.pen {lo hi : Int} {cap : Nat → Nat → Int} {pen : Nat → Int} {m : dM} (h : zCc lo hi cap pen m) {b : Nat} {v : Int} : zCc lo hi cap (zUp pen b v) (d1 m 443 b (Int32.ofInt v)) := by
  refine ⟨by rw [zd1_ne (by omega)]; exact h.1, by rw [zd1_ne (by omega)]; exact h.2.1, fun x hx => ⟨?_, fun y hy => by rw [zd1_ne (by omega)]; exact (h.2.2 x hx).2 y hy⟩⟩
  by_cases e : x = b
  · subst e; rw [zUp_at]; exact zd1_at
  · rw [zUp_ne e, zd1_nk e]; exact (h.2.2 x hx).1
theorem zCm.pen {lo hi : Int} {cap : Nat → Nat → Int} {pen : Nat → Int} {m : dM} (h : zCm lo hi cap pen m) {b : Nat} {v : Int} : zCm lo hi cap (zUp pen b v) (d1 m 460 b (Int32.ofInt v)) := by
  refine ⟨by rw [zd1_ne (by omega)]; exact h.1, by rw [zd1_ne (by omega)]; exact h.2.1, fun x hx => ⟨?_, fun y hy => by rw [zd1_ne (by omega)]; exact (h.2.2 x hx).2 y hy⟩⟩
  by_cases e : x = b
  · subst e; rw [zUp_at]; exact zd1_at
  · rw [zUp_ne e, zd1_nk e]; exact (h.2.2 x hx).1
theorem fX0_tellCaption_ok {m : dM} {b c : Nat} (hb : b < 6) (hc : c < 4) {v : Int32} : fX0_tellCaption m 435 (Int32.ofInt b) (Int32.ofInt c) v = some (d1 m (436 + 1 + b) c v) := by
  obtain ⟨k1, k2⟩ := kCap hb
  unfold fX0_tellCaption
  rw [dg_ok kCon, show (0 : Int32) = Int32.ofInt 0 from rfl, show (5 : Int32) = Int32.ofInt 5 from rfl, show (3 : Int32) = Int32.ofInt 3 from rfl, fX11_isWithin_ok m (by omega) (by omega) (by omega) (by omega) (by omega) (by omega), if_pos (by omega), Option.bind_some, if_neg (show ¬ (1 : Int32) = Int32.ofInt 0 by decide), fX11_isWithin_ok m (by omega) (by omega) (by omega) (by omega) (by omega) (by omega), if_pos (by omega), Option.bind_some, if_neg (show ¬ (1 : Int32) = Int32.ofInt 0 by decide), kd436, zi_cn (by omega), k2, zi_cn (by omega), dg_ok (dIx_nat hb (by decide)), dg_ok k1, dg_ok (dIx_nat hc (by decide))]
  rfl
theorem fX0_tellPenalty_ok {m : dM} {b : Nat} (hb : b < 6) {v : Int32} : fX0_tellPenalty m 435 (Int32.ofInt b) v = some (d1 m 443 b v) := by
  unfold fX0_tellPenalty
  rw [dg_ok kCon, show (0 : Int32) = Int32.ofInt 0 from rfl, show (5 : Int32) = Int32.ofInt 5 from rfl, fX11_isWithin_ok m (by omega) (by omega) (by omega) (by omega) (by omega) (by omega), if_pos (by omega), Option.bind_some, if_neg (show ¬ (1 : Int32) = Int32.ofInt 0 by decide), kd443, zi_cn (by omega), dg_ok (dIx_nat hb (by decide))]
  rfl
theorem zT_in {N S P : Nat} {sx sy : Nat → Nat → Int} {so : Nat → Nat} {co te : Nat → Int} {lt : Nat → Bool} {go : Nat → Nat → Nat} (hr : zPr N S P sx sy so co te lt go) : 0 ≤ zTime co te P ∧ zTime co te P ≤ 10000 := by
  have h := zTime_le (co := co) (te := te) P (fun i hi => by obtain ⟨a1, a2, a3, a4, a5, a6⟩ := hr.2 i hi; exact ⟨a2, a3, a4⟩)
  have hP := hr.1
  omega
theorem fX11_judge_ok {N S P : Nat} {sx sy : Nat → Nat → Int} {so : Nat → Nat} {co te : Nat → Int} {lt : Nat → Bool} {go : Nat → Nat → Nat} {lo hi : Int} {cap : Nat → Nat → Int} {pen : Nat → Int} {m : dM} (hpr : zPr N S P sx sy so co te lt go) (hpc : zPc N P sx sy so co te lt go m) (hr : zCr lo hi cap pen) (h : zCc lo hi cap pen m) {a c v : Int} (a1 : -2147483648 ≤ a) (a2 : a < 2147483648) (c1 : -2147483648 ≤ c) (c2 : c < 2147483648) (v1 : -2147483648 ≤ v) (v2 : v < 2147483648) : fX11_judge m 0 (Int32.ofInt a) (Int32.ofInt c) (Int32.ofInt v) = if (0 ≤ a ∧ a < 6) ∧ 0 ≤ c ∧ c < 4 then if 0 ≤ v ∧ v ≤ 1000 then some (.inr (Int32.ofInt (zPts lo hi (zCap cap a.toNat c.toNat v) pen (zTime co te P) a.toNat), d1 m (436 + 1 + a.toNat) c.toNat (Int32.ofInt v))) else some (.inl (1, m)) else some (.inl (3, m)) := by
  unfold fX11_judge
  rw [dg_ok kF, show (6 : Int32) = Int32.ofInt 6 from rfl, show (4 : Int32) = Int32.ofInt 4 from rfl, show (0 : Int32) = Int32.ofInt 0 from rfl, show (1000 : Int32) = Int32.ofInt 1000 from rfl, fX11_needIndex_ok m a1 a2 (by omega) (by omega)]
  by_cases q : 0 ≤ a ∧ a < 6
  · obtain ⟨b, rfl⟩ := zi_nat q.1
    rw [if_pos q, Option.bind_some]
    show (fX11_needIndex m _ _).bind _ = _
    rw [fX11_needIndex_ok m c1 c2 (by omega) (by omega)]
    by_cases q2 : 0 ≤ c ∧ c < 4
    · obtain ⟨d, rfl⟩ := zi_nat q2.1
      rw [if_pos q2, Option.bind_some, if_pos ⟨q, q2⟩]
      show (fX11_needRange m _ _ _).bind _ = _
      rw [fX11_needRange_ok m v1 v2 (by omega) (by omega) (by omega) (by omega)]
      by_cases q3 : 0 ≤ v ∧ v ≤ 1000
      · rw [if_pos q3, Option.bind_some, if_pos q3]
        show (fX0_tellCaption m _ _ _ _).bind _ = _
        have hpc' : zPc N P sx sy so co te lt go (d1 m (436 + 1 + b) d (Int32.ofInt v)) := hpc.to hpr.1 (fun a q1 q2 => by simp (disch := omega) only [zd1_ne, zd1_nk, zd2_1])
        rw [fX0_tellCaption_ok (by omega) (by omega), Option.bind_some, fX8_tenthsOfSeconds_ok hpr hpc', Option.bind_some, fX0_points_ok (hr.cap b d q3.1 q3.2) (h.cap (by omega)) (zT_in hpr).1 (zT_in hpr).2 (by omega), Option.bind_some, Int.toNat_natCast, Int.toNat_natCast]
      · rw [if_neg q3, if_neg q3]; rfl
    · rw [if_neg q2, if_neg (fun z => q2 z.2)]; rfl
  · rw [if_neg q, if_neg (fun z => q z.1)]; rfl
theorem fX12_judge_ok {N S P : Nat} {sx sy : Nat → Nat → Int} {so : Nat → Nat} {co te : Nat → Int} {lt : Nat → Bool} {go : Nat → Nat → Nat} {lo hi : Int} {cap : Nat → Nat → Int} {pen : Nat → Int} {m : dM} (hpr : zPr N S P sx sy so co te lt go) (hpm : zPm N P so co te lt go m) (hr : zCr lo hi cap pen) (h : zCm lo hi cap pen m) {a c v : Int} (a1 : -2147483648 ≤ a) (a2 : a < 2147483648) (c1 : -2147483648 ≤ c) (c2 : c < 2147483648) (v1 : -2147483648 ≤ v) (v2 : v < 2147483648) : fX12_judge m 444 (Int32.ofInt a) (Int32.ofInt c) (Int32.ofInt v) = if (0 ≤ a ∧ a < 6) ∧ 0 ≤ c ∧ c < 4 then if 0 ≤ v ∧ v ≤ 1000 then some (Int32.ofInt (zPts lo hi (zCap cap a.toNat c.toNat v) pen (zTime co te P) a.toNat), d1 (d1 m 444 25 0) 459 (4 * a.toNat + c.toNat) (Int32.ofInt v)) else some (0, d1 m 444 25 2) else some (0, d1 m 444 25 1) := by
  unfold fX12_judge
  rw [dg_ok kM, show fX12_isIn m (Int32.ofInt a) 0 5 = _ from fX12_isIn_ok m (b := 0) (c := 5) a1 a2 (by omega) (by omega) (by omega) (by omega), Option.bind_some, show fX12_isIn m (Int32.ofInt c) 0 3 = _ from fX12_isIn_ok m (b := 0) (c := 3) c1 c2 (by omega) (by omega) (by omega) (by omega), Option.bind_some, show fX12_isIn m (Int32.ofInt v) 0 1000 = _ from fX12_isIn_ok m (b := 0) (c := 1000) v1 v2 (by omega) (by omega) (by omega) (by omega), Option.bind_some]
  by_cases q : 0 ≤ a ∧ a < 6
  · obtain ⟨b, rfl⟩ := zi_nat q.1
    rw [if_pos (show (0 : Int) ≤ b ∧ (b : Int) ≤ 5 by omega), if_neg z10]
    by_cases q2 : 0 ≤ c ∧ c < 4
    · obtain ⟨d, rfl⟩ := zi_nat q2.1
      rw [if_pos (show (0 : Int) ≤ d ∧ (d : Int) ≤ 3 by omega), if_neg z10, if_pos (show ((0 : Int) ≤ b ∧ (b : Int) < 6) ∧ (0 : Int) ≤ d ∧ (d : Int) < 4 from ⟨q, q2⟩)]
      by_cases q3 : 0 ≤ v ∧ v ≤ 1000
      · rw [if_pos q3, if_neg z10, if_pos q3]
        rw [dlet_v, zi_4, kd459, dg_ok (dIx_nat (by omega) (by decide)), zi_cn (by omega), dlet_v]
        have hpm' : zPm N P so co te lt go (d1 (d1 m 444 25 0) 459 (4 * b + d) (Int32.ofInt v)) := hpm.to (fun a q1 q2 => by simp (disch := omega) only [zd1_ne, zd1_nk, zd2_1]) (by simp (disch := omega) only [zd1_ne, zd1_nk, zd2_1])
        have h' : zCm lo hi cap pen (d1 m 444 25 0) := h.to (fun a q1 q2 => by simp (disch := omega) only [zd1_ne, zd1_nk, zd2_1]) (by simp (disch := omega) only [zd1_ne, zd1_nk, zd2_1]) (by simp (disch := omega) only [zd1_ne, zd1_nk, zd2_1])
        rw [fX12_points_ok hpr hpm' (hr.cap b d q3.1 q3.2) (h'.cap (by omega) (by omega)) (by omega), Option.bind_some, Int.toNat_natCast, Int.toNat_natCast]
      · rw [if_neg q3, if_neg q3, if_pos rfl]; rfl
    · rw [if_neg (show ¬ ((0 : Int) ≤ c ∧ c ≤ 3) by omega), if_pos rfl, if_neg (fun z => q2 z.2)]; rfl
  · rw [if_neg (show ¬ ((0 : Int) ≤ a ∧ a ≤ 5) by omega), if_pos rfl, if_neg (fun z => q z.1)]; rfl
theorem fX11_penalty_ok {N S P : Nat} {sx sy : Nat → Nat → Int} {so : Nat → Nat} {co te : Nat → Int} {lt : Nat → Bool} {go : Nat → Nat → Nat} {lo hi : Int} {cap : Nat → Nat → Int} {pen : Nat → Int} {m : dM} (hpr : zPr N S P sx sy so co te lt go) (hpc : zPc N P sx sy so co te lt go m) (hr : zCr lo hi cap pen) (h : zCc lo hi cap pen m) {a v : Int} (a1 : -2147483648 ≤ a) (a2 : a < 2147483648) (v1 : -2147483648 ≤ v) (v2 : v < 2147483648) : fX11_penalty m 0 (Int32.ofInt a) (Int32.ofInt v) = if 0 ≤ a ∧ a < 6 then if 0 ≤ v ∧ v ≤ 1000 then some (.inr (Int32.ofInt (zPts lo hi cap (zUp pen a.toNat v) (zTime co te P) a.toNat), d1 m 443 a.toNat (Int32.ofInt v))) else some (.inl (1, m)) else some (.inl (3, m)) := by
  unfold fX11_penalty
  rw [dg_ok kF, show (6 : Int32) = Int32.ofInt 6 from rfl, show (0 : Int32) = Int32.ofInt 0 from rfl, show (1000 : Int32) = Int32.ofInt 1000 from rfl, fX11_needIndex_ok m a1 a2 (by omega) (by omega)]
  by_cases q : 0 ≤ a ∧ a < 6
  · obtain ⟨b, rfl⟩ := zi_nat q.1
    rw [if_pos q, Option.bind_some, if_pos q]
    show (fX11_needRange m _ _ _).bind _ = _
    rw [fX11_needRange_ok m v1 v2 (by omega) (by omega) (by omega) (by omega)]
    by_cases q3 : 0 ≤ v ∧ v ≤ 1000
    · rw [if_pos q3, Option.bind_some, if_pos q3]
      show (fX0_tellPenalty m _ _ _).bind _ = _
      have hpc' : zPc N P sx sy so co te lt go (d1 m 443 b (Int32.ofInt v)) := hpc.to hpr.1 (fun a q1 q2 => by simp (disch := omega) only [zd1_ne, zd1_nk, zd2_1])
      rw [fX0_tellPenalty_ok (by omega), Option.bind_some, fX8_tenthsOfSeconds_ok hpr hpc', Option.bind_some, fX0_points_ok (hr.pen b q3.1 q3.2) h.pen (zT_in hpr).1 (zT_in hpr).2 (by omega), Option.bind_some, Int.toNat_natCast]
    · rw [if_neg q3, if_neg q3]; rfl
  · rw [if_neg q, if_neg q]; rfl
theorem fX12_penalty_ok {N S P : Nat} {sx sy : Nat → Nat → Int} {so : Nat → Nat} {co te : Nat → Int} {lt : Nat → Bool} {go : Nat → Nat → Nat} {lo hi : Int} {cap : Nat → Nat → Int} {pen : Nat → Int} {m : dM} (hpr : zPr N S P sx sy so co te lt go) (hpm : zPm N P so co te lt go m) (hr : zCr lo hi cap pen) (h : zCm lo hi cap pen m) {a v : Int} (a1 : -2147483648 ≤ a) (a2 : a < 2147483648) (v1 : -2147483648 ≤ v) (v2 : v < 2147483648) : fX12_penalty m 444 (Int32.ofInt a) (Int32.ofInt v) = if 0 ≤ a ∧ a < 6 then if 0 ≤ v ∧ v ≤ 1000 then some (Int32.ofInt (zPts lo hi cap (zUp pen a.toNat v) (zTime co te P) a.toNat), d1 (d1 m 444 25 0) 460 a.toNat (Int32.ofInt v)) else some (0, d1 m 444 25 2) else some (0, d1 m 444 25 1) := by
  unfold fX12_penalty
  rw [dg_ok kM, show fX12_isIn m (Int32.ofInt a) 0 5 = _ from fX12_isIn_ok m (b := 0) (c := 5) a1 a2 (by omega) (by omega) (by omega) (by omega), Option.bind_some, show fX12_isIn m (Int32.ofInt v) 0 1000 = _ from fX12_isIn_ok m (b := 0) (c := 1000) v1 v2 (by omega) (by omega) (by omega) (by omega), Option.bind_some]
  by_cases q : 0 ≤ a ∧ a < 6
  · obtain ⟨b, rfl⟩ := zi_nat q.1
    rw [if_pos (show (0 : Int) ≤ b ∧ (b : Int) ≤ 5 by omega), if_neg z10, if_pos q]
    by_cases q3 : 0 ≤ v ∧ v ≤ 1000
    · rw [if_pos q3, if_neg z10, if_pos q3]
      rw [dlet_v, kd460, dg_ok (dIx_nat (by omega) (by decide)), zi_cn (by omega), dlet_v]
      have hpm' : zPm N P so co te lt go (d1 (d1 m 444 25 0) 460 b (Int32.ofInt v)) := hpm.to (fun a q1 q2 => by simp (disch := omega) only [zd1_ne, zd1_nk, zd2_1]) (by simp (disch := omega) only [zd1_ne, zd1_nk, zd2_1])
      have h' : zCm lo hi cap pen (d1 m 444 25 0) := h.to (fun a q1 q2 => by simp (disch := omega) only [zd1_ne, zd1_nk, zd2_1]) (by simp (disch := omega) only [zd1_ne, zd1_nk, zd2_1]) (by simp (disch := omega) only [zd1_ne, zd1_nk, zd2_1])
      rw [fX12_points_ok hpr hpm' (hr.pen b q3.1 q3.2) h'.pen (by omega), Option.bind_some, Int.toNat_natCast]
    · rw [if_neg q3, if_neg q3, if_pos rfl]; rfl
  · rw [if_neg (show ¬ ((0 : Int) ≤ a ∧ a ≤ 5) by omega), if_pos rfl, if_neg q]; rfl
theorem zPts_in {lo hi T : Int} {cap : Nat → Nat → Int} {pen : Nat → Int} (hr : zCr lo hi cap pen) (hT : 0 ≤ T) (hT' : T ≤ 10000) {b : Nat} (hb : b < 6) : 0 ≤ zPts lo hi cap pen T b ∧ zPts lo hi cap pen T b ≤ 1000 := by
  obtain ⟨r1, r2, r3, r4⟩ := id hr
  obtain ⟨p1, p2, q⟩ := r4 b hb
  have q0 := q 0 (by decide); have q1 := q 1 (by decide); have q2 := q 2 (by decide); have q3 := q 3 (by decide)
  have bo : 0 ≤ zOut2 lo hi T ∧ zOut2 lo hi T ≤ 10000 := by unfold zOut2; split; omega; split <;> omega
  have : ∀ l : Int, 0 ≤ l → (0 ≤ (if 0 ≤ (2 * cap b 0 + 2 * cap b 1 + cap b 2 + cap b 3) / 6 - pen b - l then (2 * cap b 0 + 2 * cap b 1 + cap b 2 + cap b 3) / 6 - pen b - l else 0)) ∧ (if 0 ≤ (2 * cap b 0 + 2 * cap b 1 + cap b 2 + cap b 3) / 6 - pen b - l then (2 * cap b 0 + 2 * cap b 1 + cap b 2 + cap b 3) / 6 - pen b - l else 0) ≤ 1000 := by
    intro l hl; split <;> omega
  unfold zPts
  by_cases c : b = 0
  · simp only [if_pos c]; exact this _ (by omega)
  · simp only [if_neg c]; exact this _ (by omega)
theorem fLaw_22_ok {xs : Nat → Int32} {nL : Nat} {i : Int32} {m : dM} (hI : zI m) (g1 : dIx (i + 1) nL = true) (g2 : dIx (i + 2) nL = true) (g3 : dIx (i + 3) nL = true) : ∃ m', fLaw_22 xs nL i m = some m' ∧ zI m' := by
  obtain ⟨a, a1, a2, ea⟩ := zi_of (xs (Int32.toNatClampNeg (i + 1)))
  obtain ⟨c, c1, c2, ec⟩ := zi_of (xs (Int32.toNatClampNeg (i + 2)))
  obtain ⟨v, v1, v2, ev⟩ := zi_of (xs (Int32.toNatClampNeg (i + 3)))
  have hI0 := hI
  obtain ⟨N, S, P, pp, le, kn, il, io, sx, sy, so, co, te, lt, go, px, py, lo, hi, cap, pen, h0, h1, h1m, h2, h3, h4, h5, h6, h7, h8, h9, h10, h11, h12, h13⟩ := hI0
  have X := fX11_judge_ok h5 h6 h11 h12 a1 a2 c1 c2 v1 v2
  unfold fLaw_22 fL_judge
  rw [ea, ec, ev]
  by_cases q : (0 ≤ a ∧ a < 6) ∧ 0 ≤ c ∧ c < 4
  · rw [if_pos q] at X
    by_cases q2 : 0 ≤ v ∧ v ≤ 1000
    · rw [if_pos q2] at X
      obtain ⟨b, rfl⟩ := zi_nat q.1.1
      obtain ⟨d, rfl⟩ := zi_nat q.2.1
      rw [Int.toNat_natCast, Int.toNat_natCast] at X
      have hb : b < 6 := by omega
      have Y : ∀ w, fX12_judge (d2 (d1 m (436 + 1 + b) d (Int32.ofInt v)) 463 0 w) 444 (Int32.ofInt b) (Int32.ofInt d) (Int32.ofInt v) = _ := fun w => fX12_judge_ok h5 (h7.to (fun a q1 q2 => by simp (disch := omega) only [zd1_ne, zd1_nk, zd2_1]) (by simp (disch := omega) only [zd1_ne, zd1_nk, zd2_1])) h11 (h13.to (fun a q1 q2 => by simp (disch := omega) only [zd1_ne, zd1_nk, zd2_1]) (by simp (disch := omega) only [zd1_ne, zd1_nk, zd2_1]) (by simp (disch := omega) only [zd1_ne, zd1_nk, zd2_1])) a1 a2 c1 c2 v1 v2
      rw [Int.toNat_natCast, Int.toNat_natCast] at Y
      have bd := zPts_in (hr := h11.cap b d q2.1 q2.2) (zT_in h5).1 (zT_in h5).2 hb
      generalize hz : zPts lo hi (zCap cap b d v) pen (zTime co te P) b = z at *
      refine ⟨d1 (d1 (d2 (d1 m (436 + 1 + b) d (Int32.ofInt v)) 463 0 (Int64.ofInt z)) 444 25 0) 459 (4 * b + d) (Int32.ofInt v), ?_, ?_⟩
      · simp only [if_pos q, if_pos q2] at Y
        have zj : (Int32.ofInt z).toInt64 = Int64.ofInt z := zi_j (by omega) (by omega)
        simp (disch := omega) only [dg_ok g1, dg_ok kF, dg_ok kOut, dg_ok kL463, fX12_thrown_ok, Option.bind_some, dS, dP2, dlet, zcl0, zcmp, zd1_at, zd2_at, zd1_2, zd2_1, zd1_ne, zd1_nk, if_pos, if_neg, if_true, if_false, eq_self, zn10, zn20, zn30, zk13, zk31, zk21, zk23, zk12, zk32, dg_ok g2, dg_ok g3, X, Y, zj]
      · exact ⟨N, S, P, pp, le, kn, il, io, sx, sy, so, co, te, lt, go, px, py, lo, hi, zCap cap b d v, pen, h0, h1.to (fun a q1 q2 => by simp (disch := omega) only [zd1_ne, zd1_nk, zd2_1]), h1m.to (fun a q1 q2 => by simp (disch := omega) only [zd1_ne, zd1_nk, zd2_1]) (by simp (disch := omega) only [zd1_ne, zd1_nk, zd2_1]), h2, h3.to h2.1 (fun a q1 q2 => by simp (disch := omega) only [zd1_ne, zd1_nk, zd2_1]), h4.to (fun a q1 q2 => by simp (disch := omega) only [zd1_ne, zd1_nk, zd2_1]) (by simp (disch := omega) only [zd1_ne, zd1_nk, zd2_1]), h5, h6.to h5.1 (fun a q1 q2 => by simp (disch := omega) only [zd1_ne, zd1_nk, zd2_1]), h7.to (fun a q1 q2 => by simp (disch := omega) only [zd1_ne, zd1_nk, zd2_1]) (by simp (disch := omega) only [zd1_ne, zd1_nk, zd2_1]), h8, h9.to h8.1 (fun a q1 q2 => by simp (disch := omega) only [zd1_ne, zd1_nk, zd2_1]), h10.to (fun a q1 q2 => by simp (disch := omega) only [zd1_ne, zd1_nk, zd2_1]), h11.cap b d q2.1 q2.2, (h12.cap hb).to (fun a q1 q2 => by simp (disch := omega) only [zd1_ne, zd1_nk, zd2_1]), (h13.to (m' := d1 (d2 (d1 m (436 + 1 + b) d (Int32.ofInt v)) 463 0 (Int64.ofInt z)) 444 25 0) (fun a q1 q2 => by simp (disch := omega) only [zd1_ne, zd1_nk, zd2_1]) (by simp (disch := omega) only [zd1_ne, zd1_nk, zd2_1]) (by simp (disch := omega) only [zd1_ne, zd1_nk, zd2_1])).cap hb (by omega)⟩
    · rw [if_neg q2] at X
      have Y := fX12_judge_ok h5 h7 h11 h13 a1 a2 c1 c2 v1 v2
      rw [if_pos q, if_neg q2] at Y
      refine ⟨d1 m 444 25 2, ?_, hI.to (fun a h => by simp (disch := omega) only [zd1_ne, zd1_nk, zd2_1]) (fun k h => by simp (disch := omega) only [zd1_ne, zd1_nk, zd2_1])⟩
      simp (disch := omega) only [dg_ok g1, dg_ok kF, dg_ok kOut, dg_ok kL463, fX12_thrown_ok, Option.bind_some, dS, dP2, dlet, zcl0, zcmp, zd1_at, zd2_at, zd1_2, zd2_1, zd1_ne, zd1_nk, if_pos, if_neg, if_true, if_false, eq_self, zn10, zn20, zn30, zk13, zk31, zk21, zk23, zk12, zk32, dg_ok g2, dg_ok g3, X, Y]
  · rw [if_neg q] at X
    have Y := fX12_judge_ok h5 h7 h11 h13 a1 a2 c1 c2 v1 v2
    rw [if_neg q] at Y
    refine ⟨d1 m 444 25 1, ?_, hI.to (fun a h => by simp (disch := omega) only [zd1_ne, zd1_nk, zd2_1]) (fun k h => by simp (disch := omega) only [zd1_ne, zd1_nk, zd2_1])⟩
    simp (disch := omega) only [dg_ok g1, dg_ok kF, dg_ok kOut, dg_ok kL463, fX12_thrown_ok, Option.bind_some, dS, dP2, dlet, zcl0, zcmp, zd1_at, zd2_at, zd1_2, zd2_1, zd1_ne, zd1_nk, if_pos, if_neg, if_true, if_false, eq_self, zn10, zn20, zn30, zk13, zk31, zk21, zk23, zk12, zk32, dg_ok g2, dg_ok g3, X, Y]
theorem fLaw_23_ok {xs : Nat → Int32} {nL : Nat} {i : Int32} {m : dM} (hI : zI m) (g1 : dIx (i + 1) nL = true) (g2 : dIx (i + 2) nL = true) : ∃ m', fLaw_23 xs nL i m = some m' ∧ zI m' := by
  obtain ⟨a, a1, a2, ea⟩ := zi_of (xs (Int32.toNatClampNeg (i + 1)))
  obtain ⟨v, v1, v2, ev⟩ := zi_of (xs (Int32.toNatClampNeg (i + 2)))
  have hI0 := hI
  obtain ⟨N, S, P, pp, le, kn, il, io, sx, sy, so, co, te, lt, go, px, py, lo, hi, cap, pen, h0, h1, h1m, h2, h3, h4, h5, h6, h7, h8, h9, h10, h11, h12, h13⟩ := hI0
  have X := fX11_penalty_ok h5 h6 h11 h12 a1 a2 v1 v2
  unfold fLaw_23 fL_penalty
  rw [ea, ev]
  by_cases q : 0 ≤ a ∧ a < 6
  · rw [if_pos q] at X
    by_cases q2 : 0 ≤ v ∧ v ≤ 1000
    · rw [if_pos q2] at X
      obtain ⟨b, rfl⟩ := zi_nat q.1
      rw [Int.toNat_natCast] at X
      have hb : b < 6 := by omega
      have Y : ∀ w, fX12_penalty (d2 (d1 m 443 b (Int32.ofInt v)) 463 0 w) 444 (Int32.ofInt b) (Int32.ofInt v) = _ := fun w => fX12_penalty_ok h5 (h7.to (fun a q1 q2 => by simp (disch := omega) only [zd1_ne, zd1_nk, zd2_1]) (by simp (disch := omega) only [zd1_ne, zd1_nk, zd2_1])) h11 (h13.to (fun a q1 q2 => by simp (disch := omega) only [zd1_ne, zd1_nk, zd2_1]) (by simp (disch := omega) only [zd1_ne, zd1_nk, zd2_1]) (by simp (disch := omega) only [zd1_ne, zd1_nk, zd2_1])) a1 a2 v1 v2
      rw [Int.toNat_natCast] at Y
      have bd := zPts_in (hr := h11.pen b q2.1 q2.2) (zT_in h5).1 (zT_in h5).2 hb
      generalize hz : zPts lo hi cap (zUp pen b v) (zTime co te P) b = z at *
      refine ⟨d1 (d1 (d2 (d1 m 443 b (Int32.ofInt v)) 463 0 (Int64.ofInt z)) 444 25 0) 460 b (Int32.ofInt v), ?_, ?_⟩
      · simp only [if_pos q, if_pos q2] at Y
        have zj : (Int32.ofInt z).toInt64 = Int64.ofInt z := zi_j (by omega) (by omega)
        simp (disch := omega) only [dg_ok g1, dg_ok kF, dg_ok kOut, dg_ok kL463, fX12_thrown_ok, Option.bind_some, dS, dP2, dlet, zcl0, zcmp, zd1_at, zd2_at, zd1_2, zd2_1, zd1_ne, zd1_nk, if_pos, if_neg, if_true, if_false, eq_self, zn10, zn20, zn30, zk13, zk31, zk21, zk23, zk12, zk32, dg_ok g2, X, Y, zj]
      · exact ⟨N, S, P, pp, le, kn, il, io, sx, sy, so, co, te, lt, go, px, py, lo, hi, cap, zUp pen b v, h0, h1.to (fun a q1 q2 => by simp (disch := omega) only [zd1_ne, zd1_nk, zd2_1]), h1m.to (fun a q1 q2 => by simp (disch := omega) only [zd1_ne, zd1_nk, zd2_1]) (by simp (disch := omega) only [zd1_ne, zd1_nk, zd2_1]), h2, h3.to h2.1 (fun a q1 q2 => by simp (disch := omega) only [zd1_ne, zd1_nk, zd2_1]), h4.to (fun a q1 q2 => by simp (disch := omega) only [zd1_ne, zd1_nk, zd2_1]) (by simp (disch := omega) only [zd1_ne, zd1_nk, zd2_1]), h5, h6.to h5.1 (fun a q1 q2 => by simp (disch := omega) only [zd1_ne, zd1_nk, zd2_1]), h7.to (fun a q1 q2 => by simp (disch := omega) only [zd1_ne, zd1_nk, zd2_1]) (by simp (disch := omega) only [zd1_ne, zd1_nk, zd2_1]), h8, h9.to h8.1 (fun a q1 q2 => by simp (disch := omega) only [zd1_ne, zd1_nk, zd2_1]), h10.to (fun a q1 q2 => by simp (disch := omega) only [zd1_ne, zd1_nk, zd2_1]), h11.pen b q2.1 q2.2, h12.pen.to (fun a q1 q2 => by simp (disch := omega) only [zd1_ne, zd1_nk, zd2_1]), (h13.to (m' := d1 (d2 (d1 m 443 b (Int32.ofInt v)) 463 0 (Int64.ofInt z)) 444 25 0) (fun a q1 q2 => by simp (disch := omega) only [zd1_ne, zd1_nk, zd2_1]) (by simp (disch := omega) only [zd1_ne, zd1_nk, zd2_1]) (by simp (disch := omega) only [zd1_ne, zd1_nk, zd2_1])).pen⟩
    · rw [if_neg q2] at X
      have Y := fX12_penalty_ok h5 h7 h11 h13 a1 a2 v1 v2
      rw [if_pos q, if_neg q2] at Y
      refine ⟨d1 m 444 25 2, ?_, hI.to (fun a h => by simp (disch := omega) only [zd1_ne, zd1_nk, zd2_1]) (fun k h => by simp (disch := omega) only [zd1_ne, zd1_nk, zd2_1])⟩
      simp (disch := omega) only [dg_ok g1, dg_ok kF, dg_ok kOut, dg_ok kL463, fX12_thrown_ok, Option.bind_some, dS, dP2, dlet, zcl0, zcmp, zd1_at, zd2_at, zd1_2, zd2_1, zd1_ne, zd1_nk, if_pos, if_neg, if_true, if_false, eq_self, zn10, zn20, zn30, zk13, zk31, zk21, zk23, zk12, zk32, dg_ok g2, X, Y]
  · rw [if_neg q] at X
    have Y := fX12_penalty_ok h5 h7 h11 h13 a1 a2 v1 v2
    rw [if_neg q] at Y
    refine ⟨d1 m 444 25 1, ?_, hI.to (fun a h => by simp (disch := omega) only [zd1_ne, zd1_nk, zd2_1]) (fun k h => by simp (disch := omega) only [zd1_ne, zd1_nk, zd2_1])⟩
    simp (disch := omega) only [dg_ok g1, dg_ok kF, dg_ok kOut, dg_ok kL463, fX12_thrown_ok, Option.bind_some, dS, dP2, dlet, zcl0, zcmp, zd1_at, zd2_at, zd1_2, zd2_1, zd1_ne, zd1_nk, if_pos, if_neg, if_true, if_false, eq_self, zn10, zn20, zn30, zk13, zk31, zk21, zk23, zk12, zk32, dg_ok g2, X, Y]
