/-! the reference's looks -/
theorem zcmp_le {a b : Int} (h1 : -9223372036854775808 ≤ a) (h2 : a < 9223372036854775808) (h3 : -9223372036854775808 ≤ b) (h4 : b < 9223372036854775808) : (lg_cmp (Int64.ofInt a) (Int64.ofInt b) ≤ 0) = (a ≤ b) := by
  unfold lg_cmp
  show ((if Int64.ofInt b < Int64.ofInt a then (1 : Int32) else if Int64.ofInt a = Int64.ofInt b then 0 else -1) ≤ 0) = _
  simp only [zj_lt h3 h4 h1 h2, zj_eq h1 h2 h3 h4]
  by_cases c : b < a
  · rw [if_pos c]; exact propext ⟨fun h => absurd h (by decide), fun h => by omega⟩
  · rw [if_neg c]
    by_cases d : a = b
    · rw [if_pos d]; exact propext ⟨fun h => by omega, fun h => by decide⟩
    · rw [if_neg d]; exact propext ⟨fun h => by omega, fun h => by decide⟩
theorem zcmp_ge {a b : Int} (h1 : -9223372036854775808 ≤ a) (h2 : a < 9223372036854775808) (h3 : -9223372036854775808 ≤ b) (h4 : b < 9223372036854775808) : (0 ≤ lg_cmp (Int64.ofInt a) (Int64.ofInt b)) = (b ≤ a) := by
  unfold lg_cmp
  show (0 ≤ (if Int64.ofInt b < Int64.ofInt a then (1 : Int32) else if Int64.ofInt a = Int64.ofInt b then 0 else -1)) = _
  simp only [zj_lt h3 h4 h1 h2, zj_eq h1 h2 h3 h4]
  by_cases c : b < a
  · rw [if_pos c]; exact propext ⟨fun h => by omega, fun h => by decide⟩
  · rw [if_neg c]
    by_cases d : a = b
    · rw [if_pos d]; exact propext ⟨fun h => by omega, fun h => by decide⟩
    · rw [if_neg d]; exact propext ⟨fun h => absurd h (by decide), fun h => by omega⟩
def zSgn (s : Int) : Int := if s < 0 then -1 else if 0 < s then 1 else 0
theorem zSgn_opp (s t : Int) : (0 ≤ zSgn s * zSgn t) = (zOpp s t = false) := by
  unfold zSgn zOpp
  rcases (show s < 0 ∨ s = 0 ∨ 0 < s by omega) with a | a | a <;> rcases (show t < 0 ∨ t = 0 ∨ 0 < t by omega) with b | b | b
  · rw [if_pos a, if_pos b, decide_eq_false (by omega)]; decide
  · rw [if_pos a, if_neg (by omega), if_neg (by omega), decide_eq_false (by omega)]; decide
  · rw [if_pos a, if_neg (by omega), if_pos b, decide_eq_true (by omega)]; decide
  · rw [if_neg (by omega), if_neg (by omega), Int.zero_mul, decide_eq_false (by omega)]; decide
  · rw [if_neg (by omega), if_neg (by omega), Int.zero_mul, decide_eq_false (by omega)]; decide
  · rw [if_neg (by omega), if_neg (by omega), Int.zero_mul, decide_eq_false (by omega)]; decide
  · rw [if_neg (show ¬ s < 0 by omega), if_pos a, if_pos b, decide_eq_true (by omega)]; decide
  · rw [if_neg (show ¬ s < 0 by omega), if_pos a, if_neg (show ¬ t < 0 by omega), if_neg (show ¬ 0 < t by omega), decide_eq_false (by omega)]; decide
  · rw [if_neg (show ¬ s < 0 by omega), if_pos a, if_neg (show ¬ t < 0 by omega), if_pos b, decide_eq_false (by omega)]; decide
theorem zSgn_in (s : Int) : -1 ≤ zSgn s ∧ zSgn s ≤ 1 := by unfold zSgn; split; omega; split <;> omega
theorem fX12_sideOf_ok (m : dM) {x0 y0 x1 y1 p q : Int} (h1 : 0 ≤ x0 ∧ x0 ≤ 1600) (h2 : 0 ≤ y0 ∧ y0 ≤ 1600) (h3 : 0 ≤ x1 ∧ x1 ≤ 1600) (h4 : 0 ≤ y1 ∧ y1 ≤ 1600) (h5 : 0 ≤ p ∧ p ≤ 1600) (h6 : 0 ≤ q ∧ q ≤ 1600) : fX12_sideOf m (Int32.ofInt x0) (Int32.ofInt y0) (Int32.ofInt x1) (Int32.ofInt y1) (Int32.ofInt p) (Int32.ofInt q) = some (Int64.ofInt (zSgn (zSide x0 y0 x1 y1 p q))) := by
  have s := zSide_in h1 h2 h3 h4 h5 h6
  unfold fX12_sideOf
  rw [zi_sub, zi_sub, zi_sub, zi_sub, zi_j (by omega) (by omega), zi_j (by omega) (by omega), zi_j (by omega) (by omega), zi_j (by omega) (by omega), zj_mul, zj_mul, zj_sub, dlet_v, show (x1 - x0) * (q - y0) - (y1 - y0) * (p - x0) = zSide x0 y0 x1 y1 p q from rfl]
  generalize zSide x0 y0 x1 y1 p q = z at *
  rw [show (0 : Int64) = Int64.ofInt 0 from rfl]
  simp only [zcmp_le (a := z) (b := 0) (by omega) (by omega) (by omega) (by omega), zcmp_ge (a := z) (b := 0) (by omega) (by omega) (by omega) (by omega)]
  unfold zSgn
  by_cases c : z ≤ 0
  · rw [if_pos c]
    by_cases d : 0 ≤ z
    · rw [if_pos d, if_neg (by omega), if_neg (by omega)]
    · rw [if_neg d, if_pos (by omega)]; rfl
  · rw [if_neg c, if_neg (by omega), if_pos (by omega)]; rfl
/-- where the reference has its dots -/
def zAtM (N n : Nat) (x y : Nat → Nat → Int) (i : Int32) (M : dM) : Prop := ∀ c, c ≤ n → ∀ d, d < N → fX12_xAt M 444 i (Int32.ofInt (c : Int)) (Int32.ofInt (d : Int)) = some (Int32.ofInt (x c d)) ∧ fX12_yAt M 444 i (Int32.ofInt (c : Int)) (Int32.ofInt (d : Int)) = some (Int32.ofInt (y c d))
theorem fX12_square_ok (m : dM) {a b c d : Int} (h1 : 0 ≤ a ∧ a ≤ 1600) (h2 : 0 ≤ b ∧ b ≤ 1600) (h3 : 0 ≤ c ∧ c ≤ 1600) (h4 : 0 ≤ d ∧ d ≤ 1600) : fX12_square m (Int32.ofInt a - Int32.ofInt c) (Int32.ofInt b - Int32.ofInt d) = some (Int64.ofInt (zSq a b c d)) := by
  unfold fX12_square
  rw [zi_sub, zi_sub, zi_j (by omega) (by omega), zi_j (by omega) (by omega), zj_mul, zj_mul, zj_add]; rfl
theorem fX12_areCrossing_ok {N n : Nat} {x y : Nat → Nat → Int} {i : Int32} {M : dM} (hx : zOnF N n x y) (hM : zAtM N n x y i M) {c d e : Nat} (c1 : 1 ≤ c) (c2 : c ≤ n) (h : n ≤ 64) (hd : d < N) (he : e < N) : fX12_areCrossing M 444 i (Int32.ofInt (c : Int)) (Int32.ofInt (d : Int)) (Int32.ofInt (e : Int)) = some (zB (zCrs (x (c - 1) d) (y (c - 1) d) (x c d) (y c d) (x (c - 1) e) (y (c - 1) e) (x c e) (y c e))) := by
  have b1 := hx c (by omega) d hd
  have b2 := hx c (by omega) e he
  have b3 := hx (c - 1) (by omega) d hd
  have b4 := hx (c - 1) (by omega) e he
  unfold fX12_areCrossing
  rw [dg_ok kM, zcc c1, (hM (c - 1) (by omega) d hd).1, Option.bind_some, (hM (c - 1) (by omega) d hd).2, Option.bind_some, (hM c (by omega) d hd).1, Option.bind_some, (hM c (by omega) d hd).2, Option.bind_some, (hM (c - 1) (by omega) e he).1, Option.bind_some, (hM (c - 1) (by omega) e he).2, Option.bind_some, (hM c (by omega) e he).1, Option.bind_some, (hM c (by omega) e he).2, Option.bind_some]
  rw [fX12_sideOf_ok M (by omega) (by omega) (by omega) (by omega) (by omega) (by omega), Option.bind_some, fX12_sideOf_ok M (by omega) (by omega) (by omega) (by omega) (by omega) (by omega), Option.bind_some, fX12_sideOf_ok M (by omega) (by omega) (by omega) (by omega) (by omega) (by omega), Option.bind_some, fX12_sideOf_ok M (by omega) (by omega) (by omega) (by omega) (by omega) (by omega), Option.bind_some, zj_mul, zj_mul]
  unfold zCrs
  generalize zSide (x (c - 1) d) (y (c - 1) d) (x c d) (y c d) (x (c - 1) e) (y (c - 1) e) = s1
  generalize zSide (x (c - 1) d) (y (c - 1) d) (x c d) (y c d) (x c e) (y c e) = s2
  generalize zSide (x (c - 1) e) (y (c - 1) e) (x c e) (y c e) (x (c - 1) d) (y (c - 1) d) = s3
  generalize zSide (x (c - 1) e) (y (c - 1) e) (x c e) (y c e) (x c d) (y c d) = s4
  have pr : ∀ s t : Int, (0 ≤ lg_cmp (Int64.ofInt (zSgn s * zSgn t)) 0) = (zOpp s t = false) := by
    intro s t
    have a := zSgn_in s
    have b := zSgn_in t
    have m : -1 ≤ zSgn s * zSgn t ∧ zSgn s * zSgn t ≤ 1 := by
      rcases (show zSgn s = -1 ∨ zSgn s = 0 ∨ zSgn s = 1 by omega) with w | w | w <;> rw [w] <;> omega
    rw [← zSgn_opp, show (0 : Int64) = Int64.ofInt 0 from rfl, zcmp_ge (by omega) (by omega) (by omega) (by omega)]
  simp only [pr]
  cases zOpp s1 s2
  · rw [if_pos rfl]; rfl
  · rw [if_neg (by decide)]
    cases zOpp s3 s4
    · rw [if_pos rfl]; rfl
    · rw [if_neg (by decide)]; rfl
theorem fX12_near_ok {N n : Nat} {x y : Nat → Nat → Int} {i : Int32} {M : dM} (hx : zOnF N n x y) (hM : zAtM N n x y i M) {c d e : Nat} (c2 : c ≤ n) (hd : d < N) (he : e < N) : fX12_isFault M 444 i (Int32.ofInt (c : Int)) 1 (Int32.ofInt (d : Int)) (Int32.ofInt (e : Int)) = some (zB (decide (zSq (x c d) (y c d) (x c e) (y c e) < 100))) := by
  have b1 := hx c (by omega) d hd
  have b2 := hx c (by omega) e he
  have bd := zOnF_sq hx (c := c) (c' := c) (d := d) (d' := e) (by omega) (by omega) hd he
  unfold fX12_isFault
  rw [dg_ok kM, if_pos rfl, (hM c (by omega) d hd).1, Option.bind_some, (hM c (by omega) e he).1, Option.bind_some, (hM c (by omega) d hd).2, Option.bind_some, (hM c (by omega) e he).2, Option.bind_some, fX12_square_ok M (by omega) (by omega) (by omega) (by omega), Option.bind_some, show (100 : Int64) = Int64.ofInt 100 from rfl]
  simp only [zcmp_ge (a := zSq (x c d) (y c d) (x c e) (y c e)) (b := 100) (by omega) (by omega) (by omega) (by omega)]
  by_cases w : 100 ≤ zSq (x c d) (y c d) (x c e) (y c e)
  · rw [if_pos w, decide_eq_false (by omega)]; rfl
  · rw [if_neg w, decide_eq_true (by omega)]; rfl
theorem fX12_cross_ok {N n : Nat} {x y : Nat → Nat → Int} {i : Int32} {M : dM} (hx : zOnF N n x y) (hM : zAtM N n x y i M) {c d e : Nat} (c1 : 1 ≤ c) (c2 : c ≤ n) (h : n ≤ 64) (hd : d < N) (he : e < N) : fX12_isFault M 444 i (Int32.ofInt (c : Int)) 2 (Int32.ofInt (d : Int)) (Int32.ofInt (e : Int)) = some (zB (zCrs (x (c - 1) d) (y (c - 1) d) (x c d) (y c d) (x (c - 1) e) (y (c - 1) e) (x c e) (y c e))) := by
  unfold fX12_isFault
  rw [dg_ok kM, if_neg (by decide), fX12_areCrossing_ok hx hM c1 c2 h hd he, Option.bind_some, dg_ok (zB_dB _)]
theorem fX12_isTooLong_ok {N n : Nat} {le kn : Nat → Int} {il io : Nat → Bool} {x y : Nat → Nat → Int} {i : Nat} {t : Int} {M : dM} (hd : zDr N le kn) (hdm : zDm N le kn il io M) (hx : zOnF N n x y) (hM : zAtM N n x y (Int32.ofInt i) M) (hi : i < 12) (ht : M.1 453 i = Int32.ofInt t) (t1 : 60 ≤ t) (t2 : t ≤ 240) {c d : Nat} (c1 : 1 ≤ c) (c2 : c ≤ n) (hdN : d < N) : fX12_isTooLong M 444 (Int32.ofInt i) (Int32.ofInt (c : Int)) (Int32.ofInt (d : Int)) = some (zB (decide (zMo le t d < zSq (x c d) (y c d) (x (c - 1) d) (y (c - 1) d)))) := by
  have hN := hd.2.1
  obtain ⟨l1, l2⟩ := hd.2.2.1 d (by omega)
  have b1 := hx c (by omega) d hdN
  have b3 := hx (c - 1) (by omega) d hdN
  have bm := zMo_in l1 l2 t1 t2
  have bd := zOnF_sq hx (c := c) (c' := c - 1) (d := d) (d' := d) (by omega) (by omega) hdN hdN
  have fin : ∀ l : Int, -2147483648 ≤ l → l < 2147483648 → l * l = zMo le t d → (((fX12_xAt M 444 (Int32.ofInt i) (Int32.ofInt (c : Int)) (Int32.ofInt (d : Int))).bind (fun v3 => (fX12_xAt M 444 (Int32.ofInt i) (Int32.ofInt (c : Int) - 1) (Int32.ofInt (d : Int))).bind (fun v5 => (fX12_yAt M 444 (Int32.ofInt i) (Int32.ofInt (c : Int)) (Int32.ofInt (d : Int))).bind (fun v7 => (fX12_yAt M 444 (Int32.ofInt i) (Int32.ofInt (c : Int) - 1) (Int32.ofInt (d : Int))).bind (fun v9 => (fX12_square M (v3 - v5) (v7 - v9)).bind (fun v11 => if (lg_cmp v11 ((Int32.toInt64 (Int32.ofInt l)) * (Int32.toInt64 (Int32.ofInt l)))) ≤ 0 then (some 0 : Option Int32) else some 1)))))) = some (zB (decide (zMo le t d < zSq (x c d) (y c d) (x (c - 1) d) (y (c - 1) d))))) := by
    intro l w1 w2 hl
    rw [zcc c1, (hM c (by omega) d hdN).1, Option.bind_some, (hM (c - 1) (by omega) d hdN).1, Option.bind_some, (hM c (by omega) d hdN).2, Option.bind_some, (hM (c - 1) (by omega) d hdN).2, Option.bind_some, fX12_square_ok M (by omega) (by omega) (by omega) (by omega), Option.bind_some, zi_j w1 w2, zj_mul, hl]
    simp only [zcmp_le (a := zSq (x c d) (y c d) (x (c - 1) d) (y (c - 1) d)) (b := zMo le t d) (by omega) (by omega) (by omega) (by omega)]
    by_cases w : zSq (x c d) (y c d) (x (c - 1) d) (y (c - 1) d) ≤ zMo le t d
    · rw [if_pos w, decide_eq_false (by omega)]; rfl
    · rw [if_neg w, decide_eq_true (by omega)]; rfl
  unfold fX12_isTooLong
  rw [dg_ok kM, kd453, dg_ok (dIx_nat hi (by decide)), zi_cn (by omega), ht, kd445, zi_cn (by omega), (hdm.2.1 d (by omega)).1, show (120 : Int32) = Int32.ofInt 120 from rfl]
  by_cases w : t ≤ 120
  · rw [if_pos (by rw [zi_le (by omega) (by omega) (by omega) (by omega)]; exact w), dg_ok (dIx_nat (by omega) (by decide)), dlet_v]
    exact fin (le d) (by omega) (by omega) (by unfold zMo; rw [if_pos w])
  · rw [if_neg (by rw [zi_le (by omega) (by omega) (by omega) (by omega)]; exact w), dg_ok (dIx_nat (by omega) (by decide)), dg_ok (dIx_nat hi (by decide)), dg_ok (decide_eq_true (by rw [show (0 : Int32) = Int32.ofInt 0 from rfl, zi_eq (by omega) (by omega) (by omega) (by omega)]; omega)), zi_mul, zi_dn (by omega) (by omega) (by omega) (by omega), dlet_v]
    have a1 : 0 ≤ le d * 120 / t := Int.ediv_nonneg (by omega) (by omega)
    have a2 : le d * 120 / t ≤ 40 := Int.ediv_le_of_le_mul (by omega) (by omega)
    exact fin (le d * 120 / t) (by omega) (by omega) (by unfold zMo; rw [if_neg w])
def zLst (G : Nat → Bool) (c lo hi : Nat) : Option (Nat × Nat) → Prop
  | none => ∀ y, lo ≤ y → y < hi → G y = false
  | some (c', x) => c' = c ∧ lo ≤ x ∧ x < hi ∧ G x = true ∧ ∀ y, lo ≤ y → y < x → G y = false
theorem zLst_no {G : Nat → Bool} {c lo lo' hi : Nat} {q : Option (Nat × Nat)} (h : zLst G c lo hi q) (hl : lo' ≤ lo) (hG : ∀ y, lo' ≤ y → y < lo → G y = false) : zLst G c lo' hi q := by
  match q, h with
  | none, hh =>
    intro y y1 y2
    by_cases w : y < lo
    · exact hG y y1 w
    · exact hh y (by omega) y2
  | some (c', x), hh =>
    obtain ⟨h1, h2, h3, h4, h5⟩ := hh
    refine ⟨h1, by omega, h3, h4, fun y y1 y2 => ?_⟩
    by_cases w : y < lo
    · exact hG y y1 w
    · exact h5 y (by omega) y2
theorem zLst_hi {G : Nat → Bool} {c lo hi hi' : Nat} {q : Option (Nat × Nat)} (h : zLst G c lo hi q) (hl : hi ≤ hi') (hG : ∀ y, hi ≤ y → y < hi' → G y = false) : zLst G c lo hi' q := by
  match q, h with
  | none, hh =>
    intro y y1 y2
    by_cases w : y < hi
    · exact hh y y1 w
    · exact hG y (by omega) y2
  | some (c', x), hh =>
    obtain ⟨h1, h2, h3, h4, h5⟩ := hh
    exact ⟨h1, h2, by omega, h4, h5⟩
theorem zLst_yes {G : Nat → Bool} {c y hi : Nat} {q : Option (Nat × Nat)} (hy : y < hi) (hG : G y = true) : zLst G c y hi (some (c, y)) := ⟨rfl, by omega, hy, hG, fun z z1 z2 => by omega⟩
def zRf (m0 : dM) (q : Option (Nat × Nat)) (M : dM) : Prop := M.2 = m0.2 ∧ (∀ a, a ≠ 444 → M.1 a = m0.1 a) ∧ (∀ k, k < 21 ∨ 25 ≤ k → M.1 444 k = m0.1 444 k) ∧ ∀ k, k < 4 → M.1 444 (21 + k) = Int32.ofInt (zQ q k)
theorem zRf_dm {m0 M : dM} {N : Nat} {q : Option (Nat × Nat)} {le kn : Nat → Int} {il io : Nat → Bool} (h : zRf m0 q M) (hd : zDm N le kn il io m0) : zDm N le kn il io M := hd.to (fun a q1 q2 => h.2.1 a (by omega)) (h.2.2.1 0 (by omega))
theorem zi_m1 (a : Int) : Int32.ofInt a + (-1) = Int32.ofInt (a - 1) := by rw [show (-1 : Int32) = Int32.ofInt (-1) from rfl, zi_add]; congr 1
theorem zRf_step {m0 M : dM} {q : Option (Nat × Nat)} {c d : Nat} (h : zRf m0 q M) (h3 : zQ q 3 = -1) (hd : d < 100) : zRf m0 (some (c, d)) (d1 (d1 (d1 M 444 21 (Int32.ofInt (c : Int))) 444 22 0) 444 23 (Int32.ofInt (d : Int))) := by
  obtain ⟨i1, i2, i3, i4⟩ := h
  refine ⟨i1, fun a ha => by rw [zd1_ne ha, zd1_ne ha, zd1_ne ha]; exact i2 a ha, fun k hk => by rw [zd1_nk (by omega), zd1_nk (by omega), zd1_nk (by omega)]; exact i3 k hk, fun k hk => ?_⟩
  match k, hk with
  | 0, _ => rw [zd1_nk (by decide), zd1_nk (by decide), zd1_at]; rfl
  | 1, _ => rw [zd1_nk (by decide), zd1_at]; show (0 : Int32) = Int32.ofInt ((d / 100 : Nat) : Int); rw [show d / 100 = 0 by omega]; rfl
  | 2, _ => rw [zd1_at]; show _ = Int32.ofInt (if d < 100 then (d : Int) else _); rw [if_pos hd]
  | 3, _ => rw [zd1_nk (by decide), zd1_nk (by decide), zd1_nk (by decide), i4 3 (by decide), h3]; show _ = Int32.ofInt (if d < 100 then (-1 : Int) else _); rw [if_pos hd]
theorem zRf_pair {m0 M : dM} {q : Option (Nat × Nat)} {B c d e : Nat} {kd : Int32} (h : zRf m0 q M) (hB : (B = 100 ∧ kd = 1) ∨ (B = 200 ∧ kd = 2)) (hd : d < 10) (he : e < 10) : zRf m0 (some (c, B + 10 * d + e)) (d1 (d1 (d1 (d1 M 444 21 (Int32.ofInt (c : Int))) 444 22 kd) 444 23 (Int32.ofInt (d : Int))) 444 24 (Int32.ofInt (e : Int))) := by
  obtain ⟨i1, i2, i3, i4⟩ := h
  refine ⟨i1, fun a ha => by rw [zd1_ne ha, zd1_ne ha, zd1_ne ha, zd1_ne ha]; exact i2 a ha, fun k hk => by rw [zd1_nk (by omega), zd1_nk (by omega), zd1_nk (by omega), zd1_nk (by omega)]; exact i3 k hk, fun k hk => ?_⟩
  match k, hk with
  | 0, _ => rw [zd1_nk (by decide), zd1_nk (by decide), zd1_nk (by decide), zd1_at]; rfl
  | 1, _ =>
    rw [zd1_nk (by decide), zd1_nk (by decide), zd1_at]
    show kd = Int32.ofInt (((B + 10 * d + e) / 100 : Nat) : Int)
    rcases hB with ⟨rfl, rfl⟩ | ⟨rfl, rfl⟩
    · rw [show (100 + 10 * d + e) / 100 = 1 by omega]; rfl
    · rw [show (200 + 10 * d + e) / 100 = 2 by omega]; rfl
  | 2, _ => rw [zd1_nk (by decide), zd1_at]; show _ = Int32.ofInt (if (B + 10 * d + e) < 100 then _ else (((B + 10 * d + e) % 100 / 10 : Nat) : Int)); rw [if_neg (by omega), show (B + 10 * d + e) % 100 / 10 = d by omega]
  | 3, _ => rw [zd1_at]; show _ = Int32.ofInt (if (B + 10 * d + e) < 100 then (-1 : Int) else (((B + 10 * d + e) % 10 : Nat) : Int)); rw [if_neg (by omega), show (B + 10 * d + e) % 10 = e by omega]
theorem zSteps {m0 M : dM} {N n i c : Nat} {le kn : Nat → Int} {il io : Nat → Bool} {x y : Nat → Nat → Int} {t : Int} (hd : zDr N le kn) (hdm : zDm N le kn il io m0) (hx : zOnF N n x y) (hAt : ∀ M q, zRf m0 q M → zAtM N n x y (Int32.ofInt i) M) (hi : i < 12) (ht : m0.1 453 i = Int32.ofInt t) (t1 : 60 ≤ t) (t2 : t ≤ 240) (c1 : 1 ≤ c) (c2 : c ≤ n) (h : zRf m0 none M) : ∃ M' q', dlp (fun q => dP2 q (fun v46 m47 => fX12_looks_l47 444 (Int32.ofInt i) (Int32.ofInt (c : Int)) v46 m47)) dFl (Int32.ofInt N - 1, M) = some M' ∧ zRf m0 q' M' ∧ zLst (zFlt N (zMar kn il io) (zMo le t) x y c) c 0 100 q' := by
  have hN := hd.2.1
  obtain ⟨r, e, q', w1, w2⟩ := dlp_inv (f := fun q => dP2 q (fun v46 m47 => fX12_looks_l47 444 (Int32.ofInt i) (Int32.ofInt (c : Int)) v46 m47)) (Q := fun r => ∃ q', zRf m0 q' r ∧ zLst (zFlt N (zMar kn il io) (zMo le t) x y c) c 0 100 q') (fun k s => s.1 = Int32.ofInt ((N : Int) - 1 - k) ∧ ∃ q', zRf m0 q' s.2 ∧ zQ q' 3 = -1 ∧ zLst (zFlt N (zMar kn il io) (zMo le t) x y c) c (N - k) 100 q') N
    (fun k s hk hs => by
      obtain ⟨v, Q⟩ := s
      obtain ⟨i1, q1, i2, i4, i3⟩ := hs
      have i1 : v = Int32.ofInt ((N : Int) - 1 - k) := i1
      have i2 : zRf m0 q1 Q := i2
      rw [show ((N : Int) - 1 - k) = ((N - (k + 1) : Nat) : Int) by omega] at i1
      subst i1
      generalize hdd : N - (k + 1) = d at *
      have e1 : N - k = d + 1 := by omega
      rw [e1] at i3
      refine Or.inl ?_
      show ∃ s', fX12_looks_l47 444 (Int32.ofInt i) (Int32.ofInt (c : Int)) (Int32.ofInt (d : Int)) Q = _ ∧ _
      unfold fX12_looks_l47
      rw [if_neg (by rw [show (0 : Int32) = Int32.ofInt 0 from rfl, zi_lt (by omega) (by omega) (by omega) (by omega)]; omega), fX12_marches_ok hd (zRf_dm i2 hdm) (by omega), Option.bind_some, zi_m1]
      have v2 : Int32.ofInt ((d : Int) - 1) = Int32.ofInt ((N : Int) - 1 - ((k + 1 : Nat) : Int)) := by congr 1; omega
      have F1 : zFlt N (zMar kn il io) (zMo le t) x y c d = (decide (d < N) && zMar kn il io d && decide (zMo le t d < zSq (x c d) (y c d) (x (c - 1) d) (y (c - 1) d))) := zFlt_step (by omega)
      cases hm : zMar kn il io d
      · rw [if_pos (show zB false = 0 from rfl), dlet_v]
        refine ⟨_, rfl, v2, q1, i2, i4, zLst_no i3 (by omega) (fun y y1 y2 => ?_)⟩
        obtain rfl : y = d := by omega
        rw [F1, hm, Bool.and_false]; rfl
      · rw [if_neg (show ¬ zB true = 0 by decide), fX12_isTooLong_ok hd (zRf_dm i2 hdm) hx (hAt Q q1 i2) hi (by rw [i2.2.1 453 (by decide)]; exact ht) t1 t2 c1 c2 (by omega), Option.bind_some]
        rw [hm, decide_eq_true (show d < N by omega)] at F1
        cases hw : decide (zMo le t d < zSq (x c d) (y c d) (x (c - 1) d) (y (c - 1) d))
        · rw [if_pos (show zB false = 0 from rfl), dlet_v]
          refine ⟨_, rfl, v2, q1, i2, i4, zLst_no i3 (by omega) (fun y y1 y2 => ?_)⟩
          obtain rfl : y = d := by omega
          rw [F1, hw]; rfl
        · rw [if_neg (show ¬ zB true = 0 by decide), dlet_v, dlet_v, dlet_v, dlet_v]
          refine ⟨_, rfl, v2, some (c, d), zRf_step i2 i4 (by omega), ?_, ?_⟩
          · show (if d < 100 then (-1 : Int) else _) = -1; rw [if_pos (by omega)]
          · exact zLst_yes (q := q1) (by omega) (by rw [F1, hw]; rfl))
    (fun s hs => by
      obtain ⟨v, Q⟩ := s
      obtain ⟨i1, q1, i2, i4, i3⟩ := hs
      have i1 : v = Int32.ofInt ((N : Int) - 1 - N) := i1
      rw [show (N : Int) - 1 - N = -1 by omega] at i1
      subst i1
      refine ⟨Q, ?_, q1, i2, by rw [Nat.sub_self] at i3; exact i3⟩
      show fX12_looks_l47 444 (Int32.ofInt i) (Int32.ofInt (c : Int)) (Int32.ofInt (-1)) Q = _
      unfold fX12_looks_l47
      rw [if_pos (by decide)]) N 0 dFl (Int32.ofInt N - 1, M) (by omega) (by show _ < 100000; omega) ⟨by show Int32.ofInt N - 1 = _; rw [show (1 : Int32) = Int32.ofInt 1 from rfl, zi_sub]; congr 1; omega, none, h, rfl, fun y y1 y2 => by
        show zFlt N (zMar kn il io) (zMo le t) x _ c y = false
        rw [zFlt_step y2, decide_eq_false (by omega)]; rfl⟩
  exact ⟨r, q', e, w1, w2⟩
theorem zPairsM {m0 M : dM} {N n i c B : Nat} {kd : Int32} {le kn : Nat → Int} {il io : Nat → Bool} {x y : Nat → Nat → Int} {t : Int} (hd : zDr N le kn) (hdm : zDm N le kn il io m0) (hx : zOnF N n x y) (hAt : ∀ M q, zRf m0 q M → zAtM N n x y (Int32.ofInt i) M) (hn : n ≤ 64) (hB : (B = 100 ∧ kd = 1) ∨ (B = 200 ∧ kd = 2)) (c1 : 1 ≤ c) (c2 : c ≤ n) (h : zRf m0 none M) : ∃ M' q', fX12_looksAtPairs M 444 (Int32.ofInt i) (Int32.ofInt (c : Int)) kd = some M' ∧ zRf m0 q' M' ∧ zLst (zFlt N (zMar kn il io) (zMo le t) x y c) c B (B + 100) q' := by
  have hN := hd.2.1
  have hB' : B = 100 ∨ B = 200 := by omega
  have fa : ∀ (Q : dM) (q : Option (Nat × Nat)) (d e : Nat), zRf m0 q Q → d < e → e < N → zMar kn il io d = true → zMar kn il io e = true → fX12_isFault Q 444 (Int32.ofInt i) (Int32.ofInt (c : Int)) kd (Int32.ofInt (d : Int)) (Int32.ofInt (e : Int)) = some (zB (zFlt N (zMar kn il io) (zMo le t) x y c (B + 10 * d + e))) := by
    intro Q q d e hQ hde he hmd hme
    rcases hB with ⟨rfl, rfl⟩ | ⟨rfl, rfl⟩
    · rw [fX12_near_ok hx (hAt Q q hQ) c2 (by omega) he, zFlt_near (by omega) (by omega), hmd, hme, decide_eq_true (show d < e ∧ e < N from ⟨hde, he⟩)]; rfl
    · rw [fX12_cross_ok hx (hAt Q q hQ) c1 c2 hn (by omega) he, zFlt_cross (by omega) (by omega), hmd, hme, decide_eq_true (show d < e ∧ e < N from ⟨hde, he⟩)]; rfl
  unfold fX12_looksAtPairs
  rw [dg_ok kM, (zRf_dm h hdm).1, dlet_v]
  obtain ⟨r, e, q', w1, w2⟩ := dlp_inv (f := fun q => dP2 q (fun v3 m4 => fX12_looksAtPairs_l8 444 (Int32.ofInt i) (Int32.ofInt (c : Int)) kd v3 m4)) (Q := fun r => ∃ q', zRf m0 q' r ∧ zLst (zFlt N (zMar kn il io) (zMo le t) x y c) c B (B + 100) q') (fun k s => s.1 = Int32.ofInt ((N : Int) - 1 - k) ∧ ∃ q', zRf m0 q' s.2 ∧ zLst (zFlt N (zMar kn il io) (zMo le t) x y c) c (B + 10 * (N - k)) (B + 100) q') N
    (fun k s hk hs => by
      obtain ⟨v, Q⟩ := s
      obtain ⟨i1, q1, i2, i3⟩ := hs
      have i1 : v = Int32.ofInt ((N : Int) - 1 - k) := i1
      have i2 : zRf m0 q1 Q := i2
      have v2 : Int32.ofInt ((N : Int) - 1 - k - 1) = Int32.ofInt ((N : Int) - 1 - ((k + 1 : Nat) : Int)) := by congr 1; omega
      rw [show ((N : Int) - 1 - k) = ((N - (k + 1) : Nat) : Int) by omega] at i1 v2
      subst i1
      generalize hdd : N - (k + 1) = d at *
      have e1 : N - k = d + 1 := by omega
      rw [e1] at i3
      have inner : ∃ M' q', dlp (fun q => dP2 q (fun v41 m42 => fX12_looksAtPairs_l21 444 (Int32.ofInt i) (Int32.ofInt (c : Int)) kd (Int32.ofInt (d : Int)) v41 m42)) dFl (Int32.ofInt ((N : Int) - 1), Q) = some M' ∧ zRf m0 q' M' ∧ zLst (zFlt N (zMar kn il io) (zMo le t) x y c) c (B + 10 * d) (B + 100) q' := by
        obtain ⟨r, e, q', w1, w2⟩ := dlp_inv (f := fun q => dP2 q (fun v41 m42 => fX12_looksAtPairs_l21 444 (Int32.ofInt i) (Int32.ofInt (c : Int)) kd (Int32.ofInt (d : Int)) v41 m42)) (Q := fun r => ∃ q', zRf m0 q' r ∧ zLst (zFlt N (zMar kn il io) (zMo le t) x y c) c (B + 10 * d + (d + 1)) (B + 100) q') (fun j s => s.1 = Int32.ofInt ((N : Int) - 1 - j) ∧ ∃ q', zRf m0 q' s.2 ∧ zLst (zFlt N (zMar kn il io) (zMo le t) x y c) c (B + 10 * d + (N - j)) (B + 100) q') (N - 1 - d)
          (fun j s hj hs => by
            obtain ⟨v, Q⟩ := s
            obtain ⟨i1, q1, i2, i3⟩ := hs
            have i1 : v = Int32.ofInt ((N : Int) - 1 - j) := i1
            have i2 : zRf m0 q1 Q := i2
            have v2 : Int32.ofInt ((N : Int) - 1 - j - 1) = Int32.ofInt ((N : Int) - 1 - ((j + 1 : Nat) : Int)) := by congr 1; omega
            rw [show ((N : Int) - 1 - j) = ((N - (j + 1) : Nat) : Int) by omega] at i1 v2
            subst i1
            generalize hee : N - (j + 1) = e at *
            have e1 : N - j = e + 1 := by omega
            rw [e1] at i3
            refine Or.inl ?_
            show ∃ s', fX12_looksAtPairs_l21 444 (Int32.ofInt i) (Int32.ofInt (c : Int)) kd (Int32.ofInt (d : Int)) (Int32.ofInt (e : Int)) Q = _ ∧ _
            unfold fX12_looksAtPairs_l21
            rw [if_neg (by rw [zi_le (by omega) (by omega) (by omega) (by omega)]; omega), fX12_marches_ok hd (zRf_dm i2 hdm) (by omega), Option.bind_some, fX12_marches_ok hd (zRf_dm i2 hdm) (by omega), Option.bind_some, zi_m1]
            have no : zFlt N (zMar kn il io) (zMo le t) x y c (B + 10 * d + e) = false → zLst (zFlt N (zMar kn il io) (zMo le t) x y c) c (B + 10 * d + e) (B + 100) q1 := fun w => zLst_no i3 (by omega) (fun y y1 y2 => by rw [show y = B + 10 * d + e by omega]; exact w)
            cases hm : zMar kn il io d
            · rw [if_pos (show zB false = 0 from rfl), dlet_v]
              exact ⟨_, rfl, v2, q1, i2, no (zFlt_no hB' (by omega) (by omega) (Or.inr (Or.inl hm)))⟩
            · rw [if_neg (show ¬ zB true = 0 by decide)]
              cases hm2 : zMar kn il io e
              · rw [if_pos (show zB false = 0 from rfl), dlet_v]
                exact ⟨_, rfl, v2, q1, i2, no (zFlt_no hB' (by omega) (by omega) (Or.inr (Or.inr hm2)))⟩
              · rw [if_neg (show ¬ zB true = 0 by decide), fa Q q1 d e i2 (by omega) (by omega) hm hm2, Option.bind_some]
                cases hw : zFlt N (zMar kn il io) (zMo le t) x y c (B + 10 * d + e)
                · rw [if_pos (show zB false = 0 from rfl), dlet_v]
                  exact ⟨_, rfl, v2, q1, i2, no hw⟩
                · rw [if_neg (show ¬ zB true = 0 by decide), dlet_v, dlet_v, dlet_v, dlet_v, dlet_v]
                  exact ⟨_, rfl, v2, some (c, B + 10 * d + e), zRf_pair i2 hB (by omega) (by omega), zLst_yes (q := q1) (by omega) hw⟩)
          (fun s hs => by
            obtain ⟨v, Q⟩ := s
            obtain ⟨i1, q1, i2, i3⟩ := hs
            have i1 : v = Int32.ofInt ((N : Int) - 1 - ((N - 1 - d : Nat) : Int)) := i1
            rw [show (N : Int) - 1 - ((N - 1 - d : Nat) : Int) = d by omega] at i1
            rw [show N - (N - 1 - d) = d + 1 by omega] at i3
            subst i1
            refine ⟨Q, ?_, q1, i2, i3⟩
            show fX12_looksAtPairs_l21 444 (Int32.ofInt i) (Int32.ofInt (c : Int)) kd (Int32.ofInt (d : Int)) (Int32.ofInt (d : Int)) Q = _
            unfold fX12_looksAtPairs_l21
            rw [if_pos (Int32.le_refl _)]) (N - 1 - d) 0 dFl (Int32.ofInt ((N : Int) - 1), Q) (by omega) (by show _ < 100000; omega) ⟨by show Int32.ofInt _ = Int32.ofInt _; congr 1; omega, q1, i2, zLst_no i3 (by omega) (fun y y1 y2 => by
              rw [show y = B + 10 * d + (y - (B + 10 * d)) by omega]
              exact zFlt_no hB' (by omega) (by omega) (Or.inl (by omega)))⟩
        refine ⟨r, q', e, w1, zLst_no w2 (by omega) (fun y y1 y2 => ?_)⟩
        rw [show y = B + 10 * d + (y - (B + 10 * d)) by omega]
        exact zFlt_no hB' (by omega) (by omega) (Or.inl (by omega))
      obtain ⟨M', q', w1, w2, w3⟩ := inner
      refine Or.inl ⟨(Int32.ofInt ((d : Int) - 1), M'), ?_, v2, q', w2, w3⟩
      show fX12_looksAtPairs_l8 444 (Int32.ofInt i) (Int32.ofInt (c : Int)) kd (Int32.ofInt (d : Int)) Q = _
      unfold fX12_looksAtPairs_l8
      rw [if_neg (by rw [show (0 : Int32) = Int32.ofInt 0 from rfl, zi_lt (by omega) (by omega) (by omega) (by omega)]; omega), (zRf_dm i2 hdm).1, show Int32.ofInt (N : Int) - 1 = Int32.ofInt ((N : Int) - 1) by rw [show (1 : Int32) = Int32.ofInt 1 from rfl, zi_sub], dlet_v, w1, Option.bind_some]
      show dlet _ _ = _
      rw [dlet_v, zi_m1]; rfl)
    (fun s hs => by
      obtain ⟨v, Q⟩ := s
      obtain ⟨i1, q1, i2, i3⟩ := hs
      have i1 : v = Int32.ofInt ((N : Int) - 1 - N) := i1
      rw [show (N : Int) - 1 - N = -1 by omega] at i1
      subst i1
      refine ⟨Q, ?_, q1, i2, by rw [Nat.sub_self] at i3; exact i3⟩
      show fX12_looksAtPairs_l8 444 (Int32.ofInt i) (Int32.ofInt (c : Int)) kd (Int32.ofInt (-1)) Q = _
      unfold fX12_looksAtPairs_l8
      rw [if_pos (by decide)]) N 0 dFl (Int32.ofInt (N : Int) - 1, M) (by omega) (by show _ < 100000; omega) ⟨by show Int32.ofInt (N : Int) - 1 = _; rw [show (1 : Int32) = Int32.ofInt 1 from rfl, zi_sub]; congr 1; omega, none, h, fun y y1 y2 => by
        rw [show y = B + 10 * ((y - B) / 10) + (y - B) % 10 by omega]
        exact zFlt_no hB' (by omega) (by omega) (Or.inl (by omega))⟩
  exact ⟨r, q', by rw [e]; rfl, w1, w2⟩
theorem fX12_looks_ok {m : dM} {N n i : Nat} {le kn : Nat → Int} {il io : Nat → Bool} {x y : Nat → Nat → Int} {t : Int} (hd : zDr N le kn) (hdm : zDm N le kn il io m) (hx : zOnF N n x y) (hAt : ∀ M q, zRf m q M → zAtM N n x y (Int32.ofInt i) M) (hi : i < 12) (hc : m.1 452 i = Int32.ofInt n) (hn : n ≤ 64) (ht : m.1 453 i = Int32.ofInt t) (t1 : 60 ≤ t) (t2 : t ≤ 240) : ∃ M q, fX12_looks m 444 (Int32.ofInt i) = some M ∧ zRf m q M ∧ zFirst (zFlt N (zMar kn il io) (zMo le t) x y) n q := by
  have hN := hd.2.1
  have h4 : zRf m none (d1 (d1 (d1 (d1 m 444 21 (-1)) 444 22 (-1)) 444 23 (-1)) 444 24 (-1)) := by
    refine ⟨rfl, fun a ha => by rw [zd1_ne ha, zd1_ne ha, zd1_ne ha, zd1_ne ha], fun k hk => by rw [zd1_nk (by omega), zd1_nk (by omega), zd1_nk (by omega), zd1_nk (by omega)], fun k hk => ?_⟩
    match k, hk with
    | 0, _ => rw [zd1_nk (by decide), zd1_nk (by decide), zd1_nk (by decide), zd1_at]; rfl
    | 1, _ => rw [zd1_nk (by decide), zd1_nk (by decide), zd1_at]; rfl
    | 2, _ => rw [zd1_nk (by decide), zd1_at]; rfl
    | 3, _ => rw [zd1_at]; rfl
  unfold fX12_looks
  rw [dg_ok kM, dlet_v, dlet_v, dlet_v, dlet_v]
  generalize d1 (d1 (d1 (d1 m 444 21 (-1)) 444 22 (-1)) 444 23 (-1)) 444 24 (-1) = M4 at *
  have some_no : ∀ (c y : Nat), ¬ (Int32.ofInt (zQ (some (c, y)) 0) = -1) ∨ ¬ c ≤ 64 := fun c y => by
    by_cases w : c ≤ 64
    · refine Or.inl ?_
      show ¬ (Int32.ofInt (c : Int) = -1)
      rw [show (-1 : Int32) = Int32.ofInt (-1) from rfl, zi_eq (by omega) (by omega) (by omega) (by omega)]; omega
    · exact Or.inr w
  obtain ⟨r, e, q', w1, w2⟩ := dlp_inv (f := fun q => dP2 q (fun v6 m7 => fX12_looks_l22 444 (Int32.ofInt i) v6 m7)) (Q := fun r => ∃ q', zRf m q' r ∧ zFirst (zFlt N (zMar kn il io) (zMo le t) x y) n q') (fun k s => s.1 = Int32.ofInt ((k + 1 : Nat) : Int) ∧ ∃ q', zRf m q' s.2 ∧ ((q' = none ∧ ∀ c, 1 ≤ c → c < k + 1 → ∀ z, z < 300 → zFlt N (zMar kn il io) (zMo le t) x y c z = false) ∨ (q' ≠ none ∧ zFirst (zFlt N (zMar kn il io) (zMo le t) x y) n q'))) n
    (fun k s hk hs => by
      obtain ⟨v, Q⟩ := s
      obtain ⟨i1, q1, i2, i3⟩ := hs
      have i1 : v = Int32.ofInt ((k + 1 : Nat) : Int) := i1
      have i2 : zRf m q1 Q := i2
      subst i1
      have l22 : ∀ s', (if (Q.1 444 21) = (-1) then dlet ((Q.1 444 0) - 1 : Int32) (fun v44 => (dlp (fun q => dP2 q (fun v46 m47 => fX12_looks_l47 444 (Int32.ofInt i) (Int32.ofInt ((k + 1 : Nat) : Int)) v46 m47)) dFl (v44, Q)).bind (fun q => dP1 q (fun m68 => (dlp (fun q => dP2 q (fun v70 m71 => fX12_looks_l92 444 (Int32.ofInt i) (Int32.ofInt ((k + 1 : Nat) : Int)) v70 m71)) dFl (1, m68)).bind (fun q => dP1 q (fun m78 => dlet (Int32.ofInt ((k + 1 : Nat) : Int) + 1 : Int32) (fun v79 => (some (.inl (v79, m78)) : Option ((Int32 × dM) ⊕ dM)))))))) else some (.inr Q)) = s' → fX12_looks_l22 444 (Int32.ofInt i) (Int32.ofInt ((k + 1 : Nat) : Int)) Q = s' := by
        intro s' hs'
        unfold fX12_looks_l22
        rw [kd452, dg_ok (dIx_nat hi (by decide)), zi_cn (by omega), i2.2.1 452 (by decide), hc, if_neg (by rw [zi_lt (by omega) (by omega) (by omega) (by omega)]; omega)]
        exact hs'
      have c0 : Q.1 444 21 = Int32.ofInt (zQ q1 0) := i2.2.2.2 0 (by decide)
      rcases i3 with ⟨rfl, i3⟩ | ⟨i4, i3⟩
      · -- nothing found so far
        obtain ⟨M1, q2, w1, w2, w3⟩ := zSteps (c := k + 1) hd hdm hx hAt hi ht t1 t2 (by omega) (by omega) i2
        have kinds : ∃ M2 q3, dlp (fun q => dP2 q (fun v70 m71 => fX12_looks_l92 444 (Int32.ofInt i) (Int32.ofInt ((k + 1 : Nat) : Int)) v70 m71)) dFl (1, M1) = some M2 ∧ zRf m q3 M2 ∧ zLst (zFlt N (zMar kn il io) (zMo le t) x y (k + 1)) (k + 1) 0 300 q3 := by
          have stop : ∀ (v : Int32) (M : dM) (c z j : Nat), zRf m (some (c, z)) M → c ≤ 64 → ¬ 2 < v → dlp (fun q => dP2 q (fun v70 m71 => fX12_looks_l92 444 (Int32.ofInt i) (Int32.ofInt ((k + 1 : Nat) : Int)) v70 m71)) (j + 1) (v, M) = some M := by
            intro v M c z j hM hc' hv
            refine dlp2 ?_
            show fX12_looks_l92 444 (Int32.ofInt i) (Int32.ofInt ((k + 1 : Nat) : Int)) v M = _
            unfold fX12_looks_l92
            have : M.1 444 21 = Int32.ofInt (zQ (some (c, z)) 0) := hM.2.2.2 0 (by decide)
            rw [if_neg hv, this, if_neg ((some_no c z).resolve_right (by omega))]
          have go : ∀ (kd : Int32) (v' : Int32) (B j : Nat) (M : dM), zRf m none M → ((B = 100 ∧ kd = 1) ∨ (B = 200 ∧ kd = 2)) → kd + 1 = v' → ¬ 2 < kd → ∃ M' q', zRf m q' M' ∧ zLst (zFlt N (zMar kn il io) (zMo le t) x y (k + 1)) (k + 1) B (B + 100) q' ∧ dlp (fun q => dP2 q (fun v70 m71 => fX12_looks_l92 444 (Int32.ofInt i) (Int32.ofInt ((k + 1 : Nat) : Int)) v70 m71)) (j + 1) (kd, M) = dlp (fun q => dP2 q (fun v70 m71 => fX12_looks_l92 444 (Int32.ofInt i) (Int32.ofInt ((k + 1 : Nat) : Int)) v70 m71)) j (v', M') := by
            intro kd v' B j M hM hB hv hk2
            obtain ⟨M', q', u1, u2, u3⟩ := zPairsM (t := t) hd hdm hx hAt hn hB (show 1 ≤ k + 1 by omega) (by omega) hM
            refine ⟨M', q', u2, u3, dlp1 ?_⟩
            show fX12_looks_l92 444 (Int32.ofInt i) (Int32.ofInt ((k + 1 : Nat) : Int)) kd M = _
            unfold fX12_looks_l92
            have : M.1 444 21 = Int32.ofInt (-1) := hM.2.2.2 0 (by decide)
            rw [if_neg hk2, this, if_pos (show Int32.ofInt (-1) = -1 from rfl), u1, Option.bind_some, hv]; rfl
          match q2, w2, w3 with
          | some (c, z), w2, w3 =>
            exact ⟨M1, some (c, z), stop 1 M1 c z 99999 w2 (by have := w3.1; omega) (by decide), w2, ⟨w3.1, w3.2.1, by have := w3.2.2.1; omega, w3.2.2.2⟩⟩
          | none, w2, w3 =>
            obtain ⟨M2, q3, u1, u2, u3⟩ := go 1 2 100 99999 M1 w2 (Or.inl ⟨rfl, rfl⟩) (by decide) (by decide)
            have u2' := zLst_no u2 (show 0 ≤ 100 by omega) w3
            match q3, u1, u2' with
            | some (c, z), u1, u2' =>
              exact ⟨M2, some (c, z), by rw [show dFl = 99999 + 1 from rfl, u3]; exact stop 2 M2 c z 99998 u1 (by have := u2'.1; omega) (by decide), u1, ⟨u2'.1, u2'.2.1, by have := u2'.2.2.1; omega, u2'.2.2.2⟩⟩
            | none, u1, u2' =>
              obtain ⟨M3, q4, x1, x2, x3⟩ := go 2 3 200 99998 M2 u1 (Or.inr ⟨rfl, rfl⟩) (by decide) (by decide)
              refine ⟨M3, q4, ?_, x1, zLst_no x2 (show 0 ≤ 200 by omega) u2'⟩
              rw [show dFl = 99999 + 1 from rfl, u3, x3]
              refine dlp2 ?_
              show fX12_looks_l92 444 (Int32.ofInt i) (Int32.ofInt ((k + 1 : Nat) : Int)) 3 M3 = _
              unfold fX12_looks_l92
              rw [if_pos (by decide)]
        obtain ⟨M2, q3, u1, u2, u3⟩ := kinds
        refine Or.inl ⟨(Int32.ofInt ((k + 1 + 1 : Nat) : Int), M2), ?_, rfl, q3, u2, ?_⟩
        · refine l22 _ ?_
          rw [c0, if_pos (show Int32.ofInt (zQ none 0) = -1 from rfl), (zRf_dm i2 hdm).1, dlet_v, w1, Option.bind_some]
          show ((dlp (fun q => dP2 q (fun v70 m71 => fX12_looks_l92 444 (Int32.ofInt i) (Int32.ofInt ((k + 1 : Nat) : Int)) v70 m71)) dFl (1, M1)).bind _) = _
          rw [u1, zi_1]; rfl
        · match q3, u3 with
          | none, u3 =>
            refine Or.inl ⟨rfl, fun c d1 d2 z hz => ?_⟩
            by_cases w : c = k + 1
            · subst w; exact u3 z (by omega) hz
            · exact i3 c d1 (by omega) z hz
          | some (c, z), u3 =>
            obtain ⟨y1, y2, y3, y4, y5⟩ := u3
            subst y1
            exact Or.inr ⟨(fun w => nomatch w), by omega, by omega, y3, y4, i3, fun z' hz' => y5 z' (by omega) hz'⟩
      · refine Or.inr ⟨Q, ?_, q1, i2, i3⟩
        match q1, i3, i4, c0 with
        | none, _, i4, _ => exact absurd rfl i4
        | some (c, z), i3, _, c0 =>
          refine l22 _ ?_
          rw [c0, if_neg ((some_no c z).resolve_right (by have := i3.2.1; omega))])
    (fun s hs => by
      obtain ⟨v, Q⟩ := s
      obtain ⟨i1, q1, i2, i3⟩ := hs
      have i1 : v = Int32.ofInt ((n + 1 : Nat) : Int) := i1
      have i2 : zRf m q1 Q := i2
      subst i1
      refine ⟨Q, ?_, q1, i2, ?_⟩
      · show fX12_looks_l22 444 (Int32.ofInt i) (Int32.ofInt ((n + 1 : Nat) : Int)) Q = _
        unfold fX12_looks_l22
        rw [kd452, dg_ok (dIx_nat hi (by decide)), zi_cn (by omega), i2.2.1 452 (by decide), hc, if_pos (by rw [zi_lt (by omega) (by omega) (by omega) (by omega)]; omega)]
      · rcases i3 with ⟨rfl, i3⟩ | ⟨i4, i3⟩
        · exact fun c d1 d2 z hz => i3 c d1 (by omega) z hz
        · exact i3) n 0 dFl (1, M4) (by omega) (by show _ < 100000; omega) ⟨rfl, none, h4, Or.inl ⟨rfl, fun c d1 d2 => by omega⟩⟩
  exact ⟨r, q', by rw [e]; rfl, w1, w2⟩
theorem zQ_in {F : Nat → Nat → Bool} {co : Nat} {q : Option (Nat × Nat)} (h : zFirst F co q) (hc : co ≤ 64) (k : Nat) : -1 ≤ zQ q k ∧ zQ q k ≤ 300 := by
  match q, h with
  | none, _ => exact ⟨by show (-1 : Int) ≤ -1; omega, by show (-1 : Int) ≤ 300; omega⟩
  | some (c, n), hh =>
    obtain ⟨h1, h2, h3, h4⟩ := hh
    unfold zQ
    by_cases k0 : k = 0
    · simp only [if_pos k0]; omega
    · simp only [if_neg k0]
      by_cases k1 : k = 1
      · simp only [if_pos k1]; omega
      · simp only [if_neg k1]
        by_cases k2 : k = 2
        · simp only [if_pos k2]
          split <;> omega
        · simp only [if_neg k2]
          split <;> omega
theorem zRf_at {N S P : Nat} {le kn : Nat → Int} {sx sy : Nat → Nat → Int} {so : Nat → Nat} {co te : Nat → Int} {lt : Nat → Bool} {go : Nat → Nat → Nat} {m : dM} (hd : zDr N le kn) (hs : zSr N S sx sy) (hsm : zSm N S sx sy m) (hr : zPr N S P sx sy so co te lt go) (h : zPm N P so co te lt go m) {i n : Nat} (hi : i < P) (hn : co i = n) : ∀ M q, zRf m q M → zAtM N n (zXc (zX sx so go) co i) (zXc (zX sy so go) co i) (Int32.ofInt i) M := by
  intro M q hM c hc d hdN
  have h' : zPm N P so co te lt go M := h.to (fun a q1 q2 => hM.2.1 a (by omega)) (hM.2.2.1 8 (by omega))
  have hsm' : zSm N S sx sy M := hsm.to (fun a q1 q2 => hM.2.1 a (by omega)) (hM.2.2.1 5 (by omega))
  exact ⟨fX12_xAt_ok hd.2.1 hs hsm' hr h' hi hdN (by omega) (by omega), fX12_yAt_ok hd.2.1 hs hsm' hr h' hi hdN (by omega) (by omega)⟩
theorem fLaw_13_ok {xs : Nat → Int32} {nL : Nat} {i : Int32} {m : dM} (hI : zI m) (g1 : dIx (i + 1) nL = true) (g2 : dIx (i + 2) nL = true) : ∃ m', fLaw_13 xs nL i m = some m' ∧ zI m' := by
  obtain ⟨a, a1, a2, ea⟩ := zi_of (xs (Int32.toNatClampNeg (i + 1)))
  obtain ⟨b, b1, b2, eb⟩ := zi_of (xs (Int32.toNatClampNeg (i + 2)))
  have hI0 := hI
  obtain ⟨N, S, P, pp, le, kn, il, io, sx, sy, so, co, te, lt, go, px, py, lo, hi, cap, pen, h0, h1, h1m, h2, h3, h4, h5, h6, h7, h8, h9, h10, h11, h12, h13⟩ := hI0
  have hP := h5.1
  unfold fLaw_13 fL_fault
  rw [ea, eb]
  have X1 : fX11_fault m 0 (Int32.ofInt a) (Int32.ofInt b) = (if 0 ≤ a ∧ a < P then some (.inr m) else some (.inl (3, m)) : Option ((Nat × dM) ⊕ dM)).bind (fun q => dS q (fun x => some (.inl x)) (fun m2 => (fX11_needRange m2 (Int32.ofInt b) 0 3).bind (fun q => dS q (fun x => some (.inl x)) (fun m6 => (fX8_numbered m6 47 (Int32.ofInt a)).bind (fun v10 => dg (dkg v10 6) ((fX10_look m6 171 v10 1).bind (fun q => dP2 q (fun v14 m13 => dg (dkg v14 3) ((fX2_said m13 v14 (Int32.ofInt b)).bind (fun v17 => some (.inr (v17, m13)))))))))))) := by
    unfold fX11_fault
    rw [dg_ok kF, fX11_needPart_ok h5 h6 a1 a2]
  have Y1 : ∀ M : dM, M.1 444 = m.1 444 → (∀ a, 445 ≤ a → a ≤ 460 → M.1 a = m.1 a) → fX12_fault M 444 (Int32.ofInt a) (Int32.ofInt b) = if (if 0 ≤ a ∧ a < P then (1 : Int32) else 0) = 0 then dlet (d1 M 444 25 1) (fun m9 => some (0, m9)) else (fX12_isIn M (Int32.ofInt b) 0 3).bind (fun v4 => if v4 = 0 then dlet (d1 M 444 25 2) (fun m8 => some (0, m8)) else dlet (d1 M 444 25 0) (fun m5 => (fX12_looks m5 444 (Int32.ofInt a)).bind (fun m7 => if Int32.ofInt b = 0 then some (m7.1 444 21, m7) else if Int32.ofInt b = 1 then some (m7.1 444 22, m7) else if Int32.ofInt b = 2 then some (m7.1 444 23, m7) else some (m7.1 444 24, m7)))) := fun M q1 q2 => by
    unfold fX12_fault
    rw [dg_ok kM, fX12_isPart_ok h5 (h7.to (fun a w1 w2 => q2 a (by omega) (by omega)) (by rw [q1])) a1 a2, Option.bind_some]
  by_cases q : 0 ≤ a ∧ a < P
  · rw [if_pos q, Option.bind_some, dS_r, show (0 : Int32) = Int32.ofInt 0 from rfl, show (3 : Int32) = Int32.ofInt 3 from rfl, fX11_needRange_ok m b1 b2 (by omega) (by omega) (by omega) (by omega)] at X1
    obtain ⟨k, rfl⟩ := zi_nat q.1
    have hk : k < P := by omega
    obtain ⟨r1, r2, r3, r4, r5, r6, r7⟩ := h5.2 k hk
    by_cases q2 : 0 ≤ b ∧ b ≤ 3
    · obtain ⟨w, rfl⟩ := zi_nat q2.1
      have hw : w < 4 := by omega
      obtain ⟨n, hn⟩ := zi_nat (show 0 ≤ co k by omega)
      obtain ⟨M, qq, e1, e2, e3, e4, e5⟩ := fX10_look_ok h0 h1 h2 h5 h6 hk hn
      have said : fX2_said M 371 (Int32.ofInt (w : Int)) = some (Int32.ofInt (zQ qq w)) := by
        unfold fX2_said
        rw [dg_ok kFau]
        rcases (show w = 0 ∨ w = 1 ∨ w = 2 ∨ w = 3 by omega) with rfl | rfl | rfl | rfl
        · rw [if_pos (by decide), e5 0 (by decide)]
        · rw [if_neg (by decide), if_pos (by decide), e5 1 (by decide)]
        · rw [if_neg (by decide), if_neg (by decide), if_pos (by decide), e5 2 (by decide)]
        · rw [if_neg (by decide), if_neg (by decide), if_neg (by decide), e5 3 (by decide)]
      have X : fX11_fault m 0 (Int32.ofInt (k : Int)) (Int32.ofInt (w : Int)) = some (.inr (Int32.ofInt (zQ qq w), M)) := by
        rw [X1, if_pos q2, Option.bind_some, dS_r, fX8_numbered_ok (by omega), Option.bind_some, dg_ok (kPart (by omega)), e1, Option.bind_some]
        show dg _ _ = _
        rw [dg_ok kFau, said, Option.bind_some]
      have Y : ∀ v, ∃ M', fX12_fault (d2 M 463 0 v) 444 (Int32.ofInt (k : Int)) (Int32.ofInt (w : Int)) = some (Int32.ofInt (zQ qq w), M') ∧ zRf (d1 (d2 M 463 0 v) 444 25 0) qq M' := fun v => by
        have f4 : ∀ j, (d2 M 463 0 v).1 444 j = m.1 444 j := fun j => by rw [zd2_1, e4 444 (by omega)]
        have fa : ∀ a, 445 ≤ a → a ≤ 460 → (d2 M 463 0 v).1 a = m.1 a := fun a w1 w2 => by rw [zd2_1, e4 a (by omega)]
        have hh7 : zPm N P so co te lt go (d1 (d2 M 463 0 v) 444 25 0) := h7.to (fun a w1 w2 => by rw [zd1_ne (by omega)]; exact fa a (by omega) (by omega)) (by rw [zd1_nk (by decide)]; exact f4 8)
        have hh4 : zSm N S sx sy (d1 (d2 M 463 0 v) 444 25 0) := h4.to (fun a w1 w2 => by rw [zd1_ne (by omega)]; exact fa a (by omega) (by omega)) (by rw [zd1_nk (by decide)]; exact f4 5)
        have hh1 : zDm N le kn il io (d1 (d2 M 463 0 v) 444 25 0) := h1m.to (fun a w1 w2 => by rw [zd1_ne (by omega)]; exact fa a (by omega) (by omega)) (by rw [zd1_nk (by decide)]; exact f4 0)
        rw [Y1 (d2 M 463 0 v) (funext f4) fa, if_pos q, if_neg z10, show fX12_isIn (d2 M 463 0 v) (Int32.ofInt (w : Int)) 0 3 = _ from fX12_isIn_ok _ (b := 0) (c := 3) b1 b2 (by omega) (by omega) (by omega) (by omega), Option.bind_some, if_pos q2, if_neg z10, dlet_v]
        obtain ⟨M', q', u1, u2, u3⟩ := fX12_looks_ok h0 hh1 (zXc_on h2 h5 hk hn) (zRf_at h0 h2 hh4 h5 hh7 hk hn) (show k < 12 by omega) (by rw [(hh7.2 k hk).2.1, hn]) (by omega) (hh7.2 k hk).2.2.1 r4 r5
        obtain rfl := zFirst_u e2 u3
        rw [u1, Option.bind_some]
        refine ⟨M', ?_, u2⟩
        rcases (show w = 0 ∨ w = 1 ∨ w = 2 ∨ w = 3 by omega) with rfl | rfl | rfl | rfl
        · rw [if_pos (by decide), show M'.1 444 21 = _ from u2.2.2.2 0 (by decide)]
        · rw [if_neg (by decide), if_pos (by decide), show M'.1 444 22 = _ from u2.2.2.2 1 (by decide)]
        · rw [if_neg (by decide), if_neg (by decide), if_pos (by decide), show M'.1 444 23 = _ from u2.2.2.2 2 (by decide)]
        · rw [if_neg (by decide), if_neg (by decide), if_neg (by decide), show M'.1 444 24 = _ from u2.2.2.2 3 (by decide)]
      have bz := zQ_in e2 (by omega) w
      obtain ⟨M', y1, y2⟩ := Y (Int64.ofInt (zQ qq w))
      generalize zQ qq w = z at *
      have zj : (Int32.ofInt z).toInt64 = Int64.ofInt z := zi_j (by omega) (by omega)
      have th : M'.1 444 25 = 0 := by rw [y2.2.2.1 25 (by omega), zd1_at]
      have an : M'.2 463 0 = Int64.ofInt z := by rw [y2.1, zd1_2, zd2_at]
      refine ⟨M', ?_, hI.to (fun a h => by rw [y2.2.1 a (by omega), zd1_ne (by omega), zd2_1, e4 a (by omega)]) (fun j hj => by rw [y2.2.2.1 j (by omega), zd1_nk (by omega), zd2_1, e4 444 (by omega)])⟩
      simp (disch := omega) only [dg_ok g1, dg_ok kF, dg_ok kOut, dg_ok kL463, fX12_thrown_ok, Option.bind_some, dS, dP2, dlet, zcl0, zcmp, zd1_at, zd2_at, zd1_2, zd2_1, zd1_ne, zd1_nk, if_pos, if_neg, if_true, if_false, eq_self, zn10, zn20, zn30, zk13, zk31, zk21, zk23, zk12, zk32, dg_ok g2, X, y1, zj, th, an]
    · have X : fX11_fault m 0 (Int32.ofInt (k : Int)) (Int32.ofInt b) = some (.inl (1, m)) := by
        rw [X1, if_neg q2]; rfl
      have Y : fX12_fault m 444 (Int32.ofInt (k : Int)) (Int32.ofInt b) = some (0, d1 m 444 25 2) := by
        rw [Y1 m rfl (fun _ _ _ => rfl), if_pos q, if_neg z10, show fX12_isIn m (Int32.ofInt b) 0 3 = _ from fX12_isIn_ok _ (b := 0) (c := 3) b1 b2 (by omega) (by omega) (by omega) (by omega), Option.bind_some, if_neg q2, if_pos rfl]; rfl
      refine ⟨d1 m 444 25 2, ?_, hI.to (fun a h => by simp (disch := omega) only [zd1_ne, zd1_nk, zd2_1]) (fun k h => by simp (disch := omega) only [zd1_ne, zd1_nk, zd2_1])⟩
      simp (disch := omega) only [dg_ok g1, dg_ok kF, dg_ok kOut, dg_ok kL463, fX12_thrown_ok, Option.bind_some, dS, dP2, dlet, zcl0, zcmp, zd1_at, zd2_at, zd1_2, zd2_1, zd1_ne, zd1_nk, if_pos, if_neg, if_true, if_false, eq_self, zn10, zn20, zn30, zk13, zk31, zk21, zk23, zk12, zk32, dg_ok g2, X, Y]
  · have X : fX11_fault m 0 (Int32.ofInt a) (Int32.ofInt b) = some (.inl (3, m)) := by
      rw [X1, if_neg q]; rfl
    have Y : fX12_fault m 444 (Int32.ofInt a) (Int32.ofInt b) = some (0, d1 m 444 25 1) := by
      rw [Y1 m rfl (fun _ _ _ => rfl), if_neg q, if_pos rfl]; rfl
    refine ⟨d1 m 444 25 1, ?_, hI.to (fun a h => by simp (disch := omega) only [zd1_ne, zd1_nk, zd2_1]) (fun k h => by simp (disch := omega) only [zd1_ne, zd1_nk, zd2_1])⟩
    simp (disch := omega) only [dg_ok g1, dg_ok kF, dg_ok kOut, dg_ok kL463, fX12_thrown_ok, Option.bind_some, dS, dP2, dlet, zcl0, zcmp, zd1_at, zd2_at, zd1_2, zd2_1, zd1_ne, zd1_nk, if_pos, if_neg, if_true, if_false, eq_self, zn10, zn20, zn30, zk13, zk31, zk21, zk23, zk12, zk32, dg_ok g2, X, Y]
