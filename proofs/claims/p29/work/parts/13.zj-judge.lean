theorem zi_nz2 : True := trivial
theorem zi_4 (b k : Nat) : (4 : Int32) * Int32.ofInt b + Int32.ofInt k = Int32.ofInt (4 * b + k : Nat) := by
  rw [show (4 : Int32) = Int32.ofInt 4 from rfl, zi_mul, zi_add]; congr 1
theorem dlet_v {α β : Type} (x : α) (f : α → Option β) : dlet x f = f x := rfl
def zCap (cap : Nat → Nat → Int) (b c : Nat) (v : Int) : Nat → Nat → Int := fun x y => if x = b ∧ y = c then v else cap x y
theorem zCr.cap {lo hi : Int} {cap : Nat → Nat → Int} {pen : Nat → Int} (h : zCr lo hi cap pen) (b c : Nat) {v : Int} (h1 : 0 ≤ v) (h2 : v ≤ 1000) : zCr lo hi (zCap cap b c v) pen := by
  refine ⟨h.1, h.2.1, h.2.2.1, fun x hx => ?_⟩
  obtain ⟨p1, p2, q⟩ := h.2.2.2 x hx
  refine ⟨p1, p2, fun y hy => ?_⟩
  unfold zCap
  by_cases e : x = b ∧ y = c
  · rw [if_pos e]; exact ⟨h1, h2⟩
  · rw [if_neg e]; exact q y hy
theorem zCc.cap {lo hi : Int} {cap : Nat → Nat → Int} {pen : Nat → Int} {m : dM} (h : zCc lo hi cap pen m) {b c : Nat} (hb : b < 6) {v : Int} : zCc lo hi (zCap cap b c v) pen (d1 m (436 + 1 + b) c (Int32.ofInt v)) := by
  refine ⟨by rw [zd1_ne (by omega)]; exact h.1, by rw [zd1_ne (by omega)]; exact h.2.1, fun x hx => ⟨by rw [zd1_ne (by omega)]; exact (h.2.2 x hx).1, fun y hy => ?_⟩⟩
  have q := (h.2.2 x hx).2 y hy
  unfold zCap
  by_cases e : x = b
  · subst e
    by_cases e2 : y = c
    · subst e2; rw [if_pos ⟨rfl, rfl⟩]; exact zd1_at
    · rw [if_neg (fun z => e2 z.2), ← q]; exact zd1_nk e2
  · rw [if_neg (fun z => e z.1), ← q]; exact congrFun (zd1_ne (by omega)) y
theorem zCr.pen {lo hi : Int} {cap : Nat → Nat → Int} {pen : Nat → Int} (h : zCr lo hi cap pen) (b : Nat) {v : Int} (h1 : 0 ≤ v) (h2 : v ≤ 1000) : zCr lo hi cap (zUp pen b v) := by
  refine ⟨h.1, h.2.1, h.2.2.1, fun x hx => ?_⟩
  obtain ⟨p1, p2, q⟩ := h.2.2.2 x hx
  refine ⟨?_, ?_, q⟩ <;> unfold zUp <;> split <;> assumption
theorem zCc.pen {lo hi : Int} {cap : Nat → Nat → Int} {pen : Nat → Int} {m : dM} (h : zCc lo hi cap pen m) {b : Nat} {v : Int} : zCc lo hi cap (zUp pen b v) (d1 m 443 b (Int32.ofInt v)) := by
  refine ⟨by rw [zd1_ne (by omega)]; exact h.1, by rw [zd1_ne (by omega)]; exact h.2.1, fun x hx => ⟨?_, fun y hy => by rw [zd1_ne (by omega)]; exact (h.2.2 x hx).2 y hy⟩⟩
  by_cases e : x = b
  · subst e; rw [zUp_at]; exact zd1_at
  · rw [zUp_ne e, zd1_nk e]; exact (h.2.2 x hx).1
theorem fX0_tellCaption_ok {m : dM} {b c : Nat} (hb : b < 6) (hc : c < 4) {v : Int32} : fX0_tellCaption m 435 (Int32.ofInt b) (Int32.ofInt c) v = some (d1 m (436 + 1 + b) c v) := by
  obtain ⟨k1, k2⟩ := kCap hb
  unfold fX0_tellCaption
  rw [dg_ok kCon, show (0 : Int32) = Int32.ofInt 0 from rfl, show (5 : Int32) = Int32.ofInt 5 from rfl, show (3 : Int32) = Int32.ofInt 3 from rfl, fX11_isWithin_ok m (by omega) (by omega) (by omega) (by omega) (by omega) (by omega), if_pos (by omega), Option.bind_some, if_neg (show ¬ (1 : Int32) = Int32.ofInt 0 by decide), fX11_isWithin_ok m (by omega) (by omega) (by omega) (by omega) (by omega) (by omega), if_pos (by omega), Option.bind_some, if_neg (show ¬ (1 : Int32) = Int32.ofInt 0 by decide), kd436, zi_cn (by omega), k2, zi_cn (by omega), dg_ok (dIx_nat hb (by decide)), dg_ok k1, dg_ok (dIx_nat hc (by decide))]
  rfl
theorem fX0_tellPenalty_ok {m : dM} {b : Nat} (hb : b < 6) {v : Int32} : fX0_tellPenalty m 435 (Int32.ofInt b) v = some (d1 m 443 b v) := by
  unfold fX0_tellPenalty
  rw [dg_ok kCon, show (0 : Int32) = Int32.ofInt 0 from rfl, show (5 : Int32) = Int32.ofInt 5 from rfl, fX11_isWithin_ok m (by omega) (by omega) (by omega) (by omega) (by omega) (by omega), if_pos (by omega), Option.bind_some, if_neg (show ¬ (1 : Int32) = Int32.ofInt 0 by decide), kd443, zi_cn (by omega), dg_ok (dIx_nat hb (by decide))]
  rfl
theorem zT_in {N S P : Nat} {sx sy : Nat → Nat → Int} {so : Nat → Nat} {co te : Nat → Int} {lt : Nat → Bool} {go : Nat → Nat → Nat} (hr : zPr N S P sx sy so co te lt go) : 0 ≤ zTime co te P ∧ zTime co te P ≤ 10000 := by
  have h := zTime_le (co := co) (te := te) P (fun i hi => by obtain ⟨a1, a2, a3, a4, a5, a6⟩ := hr.2 i hi; exact ⟨a2, a3, a4⟩)
  have hP := hr.1
  omega
theorem fX11_judge_ok {N S P : Nat} {sx sy : Nat → Nat → Int} {so : Nat → Nat} {co te : Nat → Int} {lt : Nat → Bool} {go : Nat → Nat → Nat} {lo hi : Int} {cap : Nat → Nat → Int} {pen : Nat → Int} {m : dM} (hpr : zPr N S P sx sy so co te lt go) (hpc : zPc N P sx sy so co te lt go m) (hr : zCr lo hi cap pen) (h : zCc lo hi cap pen m) {a c v : Int} (a1 : -2147483648 ≤ a) (a2 : a < 2147483648) (c1 : -2147483648 ≤ c) (c2 : c < 2147483648) (v1 : -2147483648 ≤ v) (v2 : v < 2147483648) : fX11_judge m 0 (Int32.ofInt a) (Int32.ofInt c) (Int32.ofInt v) = if (0 ≤ a ∧ a < 6) ∧ 0 ≤ c ∧ c < 4 then if 0 ≤ v ∧ v ≤ 1000 then some (.inr (Int32.ofInt (zPts lo hi (zCap cap a.toNat c.toNat v) pen (zTime co te P) a.toNat), d1 m (436 + 1 + a.toNat) c.toNat (Int32.ofInt v))) else some (.inl (1, m)) else some (.inl (3, m)) := by
  unfold fX11_judge
  rw [dg_ok kF, show (6 : Int32) = Int32.ofInt 6 from rfl, show (4 : Int32) = Int32.ofInt 4 from rfl, show (0 : Int32) = Int32.ofInt 0 from rfl, show (1000 : Int32) = Int32.ofInt 1000 from rfl, fX11_needIndex_ok m a1 a2 (by omega) (by omega)]
  by_cases q : 0 ≤ a ∧ a < 6
  · obtain ⟨b, rfl⟩ := zi_nat q.1
    rw [if_pos q, Option.bind_some]
    show (fX11_needIndex m _ _).bind _ = _
    rw [fX11_needIndex_ok m c1 c2 (by omega) (by omega)]
    by_cases q2 : 0 ≤ c ∧ c < 4
    · obtain ⟨d, rfl⟩ := zi_nat q2.1
      rw [if_pos q2, Option.bind_some, if_pos ⟨q, q2⟩]
      show (fX11_needRange m _ _ _).bind _ = _
      rw [fX11_needRange_ok m v1 v2 (by omega) (by omega) (by omega) (by omega)]
      by_cases q3 : 0 ≤ v ∧ v ≤ 1000
      · rw [if_pos q3, Option.bind_some, if_pos q3]
        show (fX0_tellCaption m _ _ _ _).bind _ = _
        have hpc' : zPc N P sx sy so co te lt go (d1 m (436 + 1 + b) d (Int32.ofInt v)) := hpc.to hpr.1 (fun a q1 q2 => by simp (disch := omega) only [zd1_ne, zd1_nk, zd2_1])
        rw [fX0_tellCaption_ok (by omega) (by omega), Option.bind_some, fX8_tenthsOfSeconds_ok hpr hpc', Option.bind_some, fX0_points_ok (hr.cap b d q3.1 q3.2) (h.cap (by omega)) (zT_in hpr).1 (zT_in hpr).2 (by omega), Option.bind_some, Int.toNat_natCast, Int.toNat_natCast]
      · rw [if_neg q3, if_neg q3]; rfl
    · rw [if_neg q2, if_neg (fun z => q2 z.2)]; rfl
  · rw [if_neg q, if_neg (fun z => q z.1)]; rfl
theorem fX11_penalty_ok {N S P : Nat} {sx sy : Nat → Nat → Int} {so : Nat → Nat} {co te : Nat → Int} {lt : Nat → Bool} {go : Nat → Nat → Nat} {lo hi : Int} {cap : Nat → Nat → Int} {pen : Nat → Int} {m : dM} (hpr : zPr N S P sx sy so co te lt go) (hpc : zPc N P sx sy so co te lt go m) (hr : zCr lo hi cap pen) (h : zCc lo hi cap pen m) {a v : Int} (a1 : -2147483648 ≤ a) (a2 : a < 2147483648) (v1 : -2147483648 ≤ v) (v2 : v < 2147483648) : fX11_penalty m 0 (Int32.ofInt a) (Int32.ofInt v) = if 0 ≤ a ∧ a < 6 then if 0 ≤ v ∧ v ≤ 1000 then some (.inr (Int32.ofInt (zPts lo hi cap (zUp pen a.toNat v) (zTime co te P) a.toNat), d1 m 443 a.toNat (Int32.ofInt v))) else some (.inl (1, m)) else some (.inl (3, m)) := by
  unfold fX11_penalty
  rw [dg_ok kF, show (6 : Int32) = Int32.ofInt 6 from rfl, show (0 : Int32) = Int32.ofInt 0 from rfl, show (1000 : Int32) = Int32.ofInt 1000 from rfl, fX11_needIndex_ok m a1 a2 (by omega) (by omega)]
  by_cases q : 0 ≤ a ∧ a < 6
  · obtain ⟨b, rfl⟩ := zi_nat q.1
    rw [if_pos q, Option.bind_some, if_pos q]
    show (fX11_needRange m _ _ _).bind _ = _
    rw [fX11_needRange_ok m v1 v2 (by omega) (by omega) (by omega) (by omega)]
    by_cases q3 : 0 ≤ v ∧ v ≤ 1000
    · rw [if_pos q3, Option.bind_some, if_pos q3]
      show (fX0_tellPenalty m _ _ _).bind _ = _
      have hpc' : zPc N P sx sy so co te lt go (d1 m 443 b (Int32.ofInt v)) := hpc.to hpr.1 (fun a q1 q2 => by simp (disch := omega) only [zd1_ne, zd1_nk, zd2_1])
      rw [fX0_tellPenalty_ok (by omega), Option.bind_some, fX8_tenthsOfSeconds_ok hpr hpc', Option.bind_some, fX0_points_ok (hr.pen b q3.1 q3.2) h.pen (zT_in hpr).1 (zT_in hpr).2 (by omega), Option.bind_some, Int.toNat_natCast]
    · rw [if_neg q3, if_neg q3]; rfl
  · rw [if_neg q, if_neg q]; rfl
theorem zPts_in {lo hi T : Int} {cap : Nat → Nat → Int} {pen : Nat → Int} (hr : zCr lo hi cap pen) (hT : 0 ≤ T) (hT' : T ≤ 10000) {b : Nat} (hb : b < 6) : 0 ≤ zPts lo hi cap pen T b ∧ zPts lo hi cap pen T b ≤ 1000 := by
  obtain ⟨r1, r2, r3, r4⟩ := id hr
  obtain ⟨p1, p2, q⟩ := r4 b hb
  have q0 := q 0 (by decide); have q1 := q 1 (by decide); have q2 := q 2 (by decide); have q3 := q 3 (by decide)
  have bo : 0 ≤ zOut2 lo hi T ∧ zOut2 lo hi T ≤ 10000 := by unfold zOut2; split; omega; split <;> omega
  have : ∀ l : Int, 0 ≤ l → (0 ≤ (if 0 ≤ (2 * cap b 0 + 2 * cap b 1 + cap b 2 + cap b 3) / 6 - pen b - l then (2 * cap b 0 + 2 * cap b 1 + cap b 2 + cap b 3) / 6 - pen b - l else 0)) ∧ (if 0 ≤ (2 * cap b 0 + 2 * cap b 1 + cap b 2 + cap b 3) / 6 - pen b - l then (2 * cap b 0 + 2 * cap b 1 + cap b 2 + cap b 3) / 6 - pen b - l else 0) ≤ 1000 := by
    intro l hl; split <;> omega
  unfold zPts
  by_cases c : b = 0
  · simp only [if_pos c]; exact this _ (by omega)
  · simp only [if_neg c]; exact this _ (by omega)
