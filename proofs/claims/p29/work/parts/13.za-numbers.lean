theorem zi_add (a b : Int) : Int32.ofInt a + Int32.ofInt b = Int32.ofInt (a + b) := (Int32.ofInt_add a b).symm
theorem zi_mul (a b : Int) : Int32.ofInt a * Int32.ofInt b = Int32.ofInt (a * b) := (Int32.ofInt_mul a b).symm
theorem zi_sub (a b : Int) : Int32.ofInt a - Int32.ofInt b = Int32.ofInt (a - b) := (Int32.ofInt_sub a b).symm
theorem zi_neg (a : Int) : -Int32.ofInt a = Int32.ofInt (-a) := (Int32.ofInt_neg a).symm
theorem zi_to {a : Int} (h1 : -2147483648 ≤ a) (h2 : a < 2147483648) : (Int32.ofInt a).toInt = a := Int32.toInt_ofInt_of_le h1 h2
theorem zi_lt {a b : Int} (h1 : -2147483648 ≤ a) (h2 : a < 2147483648) (h3 : -2147483648 ≤ b) (h4 : b < 2147483648) : (Int32.ofInt a < Int32.ofInt b) = (a < b) := by
  rw [Int32.lt_iff_toInt_lt, zi_to h1 h2, zi_to h3 h4]
theorem zi_le {a b : Int} (h1 : -2147483648 ≤ a) (h2 : a < 2147483648) (h3 : -2147483648 ≤ b) (h4 : b < 2147483648) : (Int32.ofInt a ≤ Int32.ofInt b) = (a ≤ b) := by
  rw [Int32.le_iff_toInt_le, zi_to h1 h2, zi_to h3 h4]
theorem zi_eq {a b : Int} (h1 : -2147483648 ≤ a) (h2 : a < 2147483648) (h3 : -2147483648 ≤ b) (h4 : b < 2147483648) : (Int32.ofInt a = Int32.ofInt b) = (a = b) := by
  rw [← Int32.toInt_inj, zi_to h1 h2, zi_to h3 h4]
theorem zi_cl {a : Int} (h1 : 0 ≤ a) (h2 : a < 2147483648) : (Int32.ofInt a).toNatClampNeg = a.toNat := by
  rw [← Int32.toNat_toInt, zi_to (by omega) h2]
theorem zi_dv {a b : Int} (h1 : -2147483648 < a) (h2 : a < 2147483648) (h3 : -2147483648 ≤ b) (h4 : b < 2147483648) : (Int32.ofInt a / Int32.ofInt b) = Int32.ofInt (a.tdiv b) := by
  rw [← Int32.ofInt_toInt (Int32.ofInt a / Int32.ofInt b), Int32.toInt_div_of_ne_left, zi_to (by omega) h2, zi_to h3 h4]
  intro h
  have := congrArg Int32.toInt h
  rw [zi_to (by omega) h2] at this
  have e : Int32.minValue.toInt = -2147483648 := by decide
  omega
/-- division of what isn't below zero -/
theorem zi_dn {a b : Int} (h1 : 0 ≤ a) (h2 : a < 2147483648) (h3 : -2147483648 ≤ b) (h4 : b < 2147483648) : (Int32.ofInt a / Int32.ofInt b) = Int32.ofInt (a / b) := by
  rw [zi_dv (by omega) h2 h3 h4, Int.tdiv_eq_ediv_of_nonneg h1]
theorem zi_md {a b : Int} (h1 : -2147483648 ≤ a) (h2 : a < 2147483648) (h3 : -2147483648 ≤ b) (h4 : b < 2147483648) : (Int32.ofInt a % Int32.ofInt b) = Int32.ofInt (a.tmod b) := by
  rw [← Int32.ofInt_toInt (Int32.ofInt a % Int32.ofInt b), Int32.toInt_mod, zi_to h1 h2, zi_to h3 h4]
theorem zi_xor {x y : Int32} (h : 0 < y) : (0 ≤ (x ^^^ y)) = (0 ≤ x) := by
  have hm : ∀ z : Int32, (0 ≤ z) = (z.toBitVec.msb = false) := fun z => by
    rw [Int32.le_iff_toInt_le, BitVec.msb_eq_toInt]
    show (0 ≤ z.toInt) = (decide (z.toInt < 0) = false)
    simp
  have hy : y.toBitVec.msb = false := by
    rw [← hm]; rw [Int32.le_iff_toInt_le]; rw [Int32.lt_iff_toInt_lt] at h; omega
  rw [hm, hm, Int32.toBitVec_xor, BitVec.msb_xor, hy, Bool.xor_false]
theorem zi_nI (n : Nat) : nI n = Int32.ofInt n := (Int32.ofInt_eq_ofNat).symm
theorem zi_j {a : Int} (h1 : -2147483648 ≤ a) (h2 : a < 2147483648) : (Int32.ofInt a).toInt64 = Int64.ofInt a := by
  rw [← Int64.ofInt_toInt (Int32.ofInt a).toInt64, Int32.toInt_toInt64, zi_to h1 h2]
theorem zj_add (a b : Int) : Int64.ofInt a + Int64.ofInt b = Int64.ofInt (a + b) := (Int64.ofInt_add a b).symm
theorem zj_mul (a b : Int) : Int64.ofInt a * Int64.ofInt b = Int64.ofInt (a * b) := (Int64.ofInt_mul a b).symm
theorem zj_sub (a b : Int) : Int64.ofInt a - Int64.ofInt b = Int64.ofInt (a - b) := (Int64.ofInt_sub a b).symm
theorem zj_neg (a : Int) : -Int64.ofInt a = Int64.ofInt (-a) := (Int64.ofInt_neg a).symm
theorem zj_to {a : Int} (h1 : -9223372036854775808 ≤ a) (h2 : a < 9223372036854775808) : (Int64.ofInt a).toInt = a := Int64.toInt_ofInt_of_le h1 h2
theorem zj_lt {a b : Int} (h1 : -9223372036854775808 ≤ a) (h2 : a < 9223372036854775808) (h3 : -9223372036854775808 ≤ b) (h4 : b < 9223372036854775808) : (Int64.ofInt a < Int64.ofInt b) = (a < b) := by
  rw [Int64.lt_iff_toInt_lt, zj_to h1 h2, zj_to h3 h4]
theorem zj_le {a b : Int} (h1 : -9223372036854775808 ≤ a) (h2 : a < 9223372036854775808) (h3 : -9223372036854775808 ≤ b) (h4 : b < 9223372036854775808) : (Int64.ofInt a ≤ Int64.ofInt b) = (a ≤ b) := by
  rw [Int64.le_iff_toInt_le, zj_to h1 h2, zj_to h3 h4]
theorem zj_eq {a b : Int} (h1 : -9223372036854775808 ≤ a) (h2 : a < 9223372036854775808) (h3 : -9223372036854775808 ≤ b) (h4 : b < 9223372036854775808) : (Int64.ofInt a = Int64.ofInt b) = (a = b) := by
  rw [← Int64.toInt_inj, zj_to h1 h2, zj_to h3 h4]
theorem z_pos0 {n : Int} : (0 : Int32) = Int32.ofInt 0 := rfl
theorem dIx_ok {a : Int} {n : Nat} (h1 : 0 ≤ a) (h2 : a < n) (h3 : a < 2147483648) : dIx (Int32.ofInt a) n = true := by
  have e : (0 : Int32) = Int32.ofInt 0 := rfl
  unfold dIx
  rw [e]
  simp only [zi_cl h1 h3, zi_le (a := 0) (b := a) (by omega) (by omega) (by omega) h3]
  simp; omega
theorem dg_ok {α : Type} {b : Bool} {x : Option α} (h : b = true) : dg b x = x := by unfold dg; rw [if_pos h]
theorem z_floor {a b : Int} (h : 0 < b) : (a.tdiv b = a / b ∧ (0 ≤ a ∨ a / b * b = a)) ∨ (a < 0 ∧ a.tdiv b = a / b + 1 ∧ a < (a / b + 1) * b ∧ (a / b + 1) * b ≤ 0) := by
  rw [Int.tdiv_eq_ediv]
  have h1 := Int.mul_ediv_add_emod a b
  have h2 := Int.emod_lt_of_pos a h
  have h3 := Int.emod_nonneg a (show b ≠ 0 by omega)
  have h4 : (a / b + 1) * b = b * (a / b) + b := by grind
  by_cases c : 0 ≤ a
  · left; rw [if_pos (Or.inl c)]; exact ⟨by omega, Or.inl c⟩
  · by_cases d : b ∣ a
    · left; rw [if_pos (Or.inr d)]; exact ⟨by omega, Or.inr (Int.ediv_mul_cancel d)⟩
    · right
      have hs : b.sign = 1 := Int.sign_eq_one_of_pos h
      rw [if_neg (by rintro (q | q); exact c q; exact d q), hs]
      refine ⟨by omega, rfl, by omega, ?_⟩
      have hn : a / b < 0 := Int.ediv_neg_of_neg_of_pos (by omega) h
      have := Int.mul_le_mul_of_nonneg_right (show a / b + 1 ≤ 0 by omega) (show 0 ≤ b by omega)
      omega
theorem z_fd {a b : Int} (h1 : -2147483648 < a) (h2 : a < 2147483648) (h3 : 0 < b) (h4 : b < 2147483648) : (if 0 ≤ (Int32.ofInt a ^^^ Int32.ofInt b) then some (Int32.ofInt a / Int32.ofInt b) else if Int32.ofInt a / Int32.ofInt b * Int32.ofInt b = Int32.ofInt a then some (Int32.ofInt a / Int32.ofInt b) else some (Int32.ofInt a / Int32.ofInt b - 1)) = some (Int32.ofInt (a / b)) := by
  have e0 : (0 : Int32) = Int32.ofInt 0 := rfl
  have e1 : (1 : Int32) = Int32.ofInt 1 := rfl
  have hb : (0 : Int32) < Int32.ofInt b := by rw [e0, zi_lt (by omega) (by omega) (by omega) (by omega)]; exact h3
  simp only [zi_xor hb]
  rw [e0, e1]
  simp only [zi_le (a := 0) (b := a) (by omega) (by omega) (by omega) (by omega), zi_dv h1 h2 (show -2147483648 ≤ b by omega) h4, zi_mul, zi_sub]
  rcases z_floor (a := a) h3 with ⟨q, r⟩ | ⟨q1, q2, q3, q4⟩
  · rw [q]
    by_cases c : 0 ≤ a
    · simp [c]
    · rw [if_neg c, if_pos (by rcases r with r | r; omega; rw [r])]
  · rw [if_neg (by omega), q2]
    simp only [zi_eq (a := (a / b + 1) * b) (b := a) (by omega) (by omega) (by omega) (by omega)]
    rw [if_neg (by omega)]
    congr 2; omega
theorem fX11_downBy_ok (m : dM) {a b : Int} (h1 : -2147483648 < a) (h2 : a < 2147483648) (h3 : 0 < b) (h4 : b < 2147483648) : fX11_downBy m (Int32.ofInt a) (Int32.ofInt b) = some (Int32.ofInt (a / b)) := by
  have e0 : (0 : Int32) = Int32.ofInt 0 := rfl
  unfold fX11_downBy fJ9_floorDiv_7cf53
  simp only [dlet]
  rw [z_fd h1 h2 h3 h4, e0]
  simp only [zi_le (a := b) (b := 0) (by omega) (by omega) (by omega) (by omega), zi_eq (a := b) (b := 0) (by omega) (by omega) (by omega) (by omega)]
  rw [if_neg (by omega), dg_ok (by simp; omega)]
  rfl
theorem fX11_restBy_ok (m : dM) {a b : Int} (h1 : 0 ≤ a) (h2 : a < 2147483648) (h3 : 0 < b) (h4 : b < 2147483648) : fX11_restBy m (Int32.ofInt a) (Int32.ofInt b) = some (Int32.ofInt (a % b)) := by
  have e0 : (0 : Int32) = Int32.ofInt 0 := rfl
  have hb : (0 : Int32) < Int32.ofInt b := by rw [e0, zi_lt (by omega) (by omega) (by omega) (by omega)]; exact h3
  have hm : a - a / b * b = a % b := by have := Int.mul_ediv_add_emod a b; have e : a / b * b = b * (a / b) := Int.mul_comm _ _; omega
  unfold fX11_restBy fJ9_floorMod_7cf53 dlet
  simp only [zi_xor hb]
  rw [e0]
  simp only [zi_dn h1 h2 (show -2147483648 ≤ b by omega) h4, zi_mul, zi_sub, hm, zi_le (a := b) (b := 0) (by omega) (by omega) (by omega) (by omega), zi_eq (a := b) (b := 0) (by omega) (by omega) (by omega) (by omega), zi_le (a := 0) (b := a) (by omega) (by omega) (by omega) (by omega)]
  rw [if_neg (by omega), dg_ok (by simp; omega), if_pos h1]
  rfl
/-- a loop, by what holds at each of its turns -/
theorem dlp_inv {σ ρ : Type} {f : σ → Option (σ ⊕ ρ)} {Q : ρ → Prop} (Iv : Nat → σ → Prop) (n : Nat) (step : ∀ k s, k < n → Iv k s → (∃ s', f s = some (.inl s') ∧ Iv (k + 1) s') ∨ ∃ r, f s = some (.inr r) ∧ Q r) (last : ∀ s, Iv n s → ∃ r, f s = some (.inr r) ∧ Q r) : ∀ (j k N : Nat) (s : σ), k + j = n → j < N → Iv k s → ∃ r, dlp f N s = some r ∧ Q r
  | 0, k, N + 1, s, h1, h2, h3 => by
    obtain rfl : k = n := by omega
    obtain ⟨r, h4, h5⟩ := last s h3
    exact ⟨r, by simp [dlp, h4], h5⟩
  | j + 1, k, N + 1, s, h1, h2, h3 => by
    rcases step k s (by omega) h3 with ⟨s', h4, h5⟩ | ⟨r, h4, h5⟩
    · obtain ⟨r, h6, h7⟩ := dlp_inv Iv n step last j (k + 1) N s' (by omega) (by omega) h5
      exact ⟨r, by simp [dlp, h4, h6], h7⟩
    · exact ⟨r, by simp [dlp, h4], h5⟩
theorem fX11_isWithin_ok (m : dM) {a b c : Int} (h1 : -2147483648 ≤ a) (h2 : a < 2147483648) (h3 : -2147483648 ≤ b) (h4 : b < 2147483648) (h5 : -2147483648 ≤ c) (h6 : c < 2147483648) : fX11_isWithin m (Int32.ofInt a) (Int32.ofInt b) (Int32.ofInt c) = some (if b ≤ a ∧ a ≤ c then 1 else 0) := by
  unfold fX11_isWithin
  simp only [zi_lt h1 h2 h3 h4, zi_lt h5 h6 h1 h2]
  by_cases c1 : a < b
  · rw [if_pos c1, if_neg (by omega)]
  · rw [if_neg c1]
    by_cases c2 : c < a
    · rw [if_pos c2, if_neg (by omega)]
    · rw [if_neg c2, if_pos (by omega)]
theorem fX11_isInRow_ok (m : dM) {a : Int} (h1 : -2147483648 ≤ a) (h2 : a < 2147483648) : fX11_isInRow m (Int32.ofInt a) = some (if 0 ≤ a ∧ a < 10 then 1 else 0) := by
  have e0 : (0 : Int32) = Int32.ofInt 0 := rfl
  have e1 : (10 : Int32) = Int32.ofInt 10 := rfl
  unfold fX11_isInRow
  rw [e1]
  simp only [zi_le (a := 10) (b := a) (by omega) (by omega) h1 h2]
  conv => lhs; rw [e0]
  simp only [zi_lt (a := a) (b := 0) h1 h2 (by omega) (by omega)]
  by_cases c1 : a < 0
  · rw [if_pos c1, if_neg (by omega)]; rfl
  · rw [if_neg c1]
    by_cases c2 : 10 ≤ a
    · rw [if_pos c2, if_neg (by omega)]; rfl
    · rw [if_neg c2, if_pos (by omega)]
theorem fX11_isInRow_nat (m : dM) {d : Nat} (h : d < 10) : fX11_isInRow m (Int32.ofInt d) = some 1 := by
  rw [fX11_isInRow_ok m (by omega) (by omega), if_pos (by omega)]
def zSp (p : Nat) : Prop := dkg p 10 = true ∧ dL (p + 1) = 10 ∧ dL (p + 2) = 10 ∧ dK (p + 1) = 20 ∧ dK (p + 2) = 20
theorem zi_cn {d : Nat} (h : d < 2147483648) : (Int32.ofInt d).toNatClampNeg = d := by rw [zi_cl (by omega) (by omega)]; exact Int.toNat_natCast d
theorem dIx_nat {d n : Nat} (h : d < n) (h2 : n ≤ 1024) : dIx (Int32.ofInt d) n = true := dIx_ok (by omega) (by omega) (by omega)
theorem z10 : ¬ (1 : Int32) = 0 := by decide
theorem fX9_x_ok {m : dM} {p d : Nat} (hp : zSp p) (hd : d < 10) : fX9_x m p (Int32.ofInt d) = some (m.1 (p + 1) d) := by
  unfold fX9_x
  rw [dg_ok hp.1, fX11_isInRow_nat m hd, Option.bind_some, if_neg z10, hp.2.1, dg_ok (dIx_nat hd (by decide)), zi_cn (by omega)]
theorem fX9_y_ok {m : dM} {p d : Nat} (hp : zSp p) (hd : d < 10) : fX9_y m p (Int32.ofInt d) = some (m.1 (p + 2) d) := by
  unfold fX9_y
  rw [dg_ok hp.1, fX11_isInRow_nat m hd, Option.bind_some, if_neg z10, hp.2.2.1, dg_ok (dIx_nat hd (by decide)), zi_cn (by omega)]
theorem fX9_put_ok {m : dM} {p d : Nat} {x y : Int32} (hp : zSp p) (hd : d < 10) : fX9_put m p (Int32.ofInt d) x y = some (d1 (d1 m (p + 1) d x) (p + 2) d y) := by
  unfold fX9_put
  simp only [dlet]
  rw [dg_ok hp.1, fX11_isInRow_nat m hd, Option.bind_some, if_neg z10, hp.2.1, hp.2.2.1, dg_ok (dIx_nat hd (by decide)), dg_ok (dIx_nat hd (by decide)), zi_cn (by omega)]
theorem fX9_squareTo_ok {m : dM} {p q d e : Nat} (hp : zSp p) (hq : zSp q) (hd : d < 10) (he : e < 10) : fX9_squareTo m p (Int32.ofInt d) q (Int32.ofInt e) = some ((m.1 (p + 1) d - m.1 (q + 1) e) * (m.1 (p + 1) d - m.1 (q + 1) e) + (m.1 (p + 2) d - m.1 (q + 2) e) * (m.1 (p + 2) d - m.1 (q + 2) e)) := by
  unfold fX9_squareTo fX11_square
  rw [dg_ok hp.1, dg_ok hq.1, fX11_isInRow_nat m hd, fX11_isInRow_nat m he, Option.bind_some, Option.bind_some, if_neg z10, if_neg z10, hp.2.1, hp.2.2.1, hq.2.1, hq.2.2.1, dg_ok (dIx_nat hd (by decide)), dg_ok (dIx_nat he (by decide)), dg_ok (dIx_nat hd (by decide)), dg_ok (dIx_nat he (by decide)), zi_cn (by omega), zi_cn (by omega)]
  rfl
/-- the spots p, as those of q, up to k -/
def zCp (m : dM) (p q k : Nat) : dM := (fun a j => if a = p + 1 ∧ j < k then m.1 (q + 1) j else if a = p + 2 ∧ j < k then m.1 (q + 2) j else m.1 a j, m.2)
theorem zSp_ne {p q : Nat} (hp : zSp p) (hq : zSp q) : ¬ p + 1 = q + 2 ∧ ¬ p + 2 = q + 1 := by
  have h1 : dK p = 10 := of_decide_eq_true hp.1
  have h2 : dK q = 10 := of_decide_eq_true hq.1
  obtain ⟨_, _, _, h3, _⟩ := hp
  obtain ⟨_, _, _, h4, _⟩ := hq
  constructor
  · intro h
    obtain rfl : p = q + 1 := by omega
    rw [h1] at h4; cases h4
  · intro h
    obtain rfl : q = p + 1 := by omega
    rw [h2] at h3; cases h3
theorem fX9_copy_ok {m : dM} {p q : Nat} (hp : zSp p) (hq : zSp q) : fX9_copy m p q = some (zCp m p q 10) := by
  obtain ⟨n1, n2⟩ := zSp_ne hp hq
  unfold fX9_copy
  rw [dg_ok hp.1, dg_ok hq.1]
  have h0 : ((0 : Int32), m) = (Int32.ofInt ((0 : Nat) : Int), zCp m p q 0) := by
    refine Prod.ext rfl (Prod.ext ?_ rfl)
    funext a j; simp [zCp]
  rw [h0, dlp_for (r := zCp m p q 10) (fun i => (Int32.ofInt (i : Int), zCp m p q i)) 10 0 10 dFl rfl (by decide) (fun k _ hk => by
    show fX9_copy_l2 p q _ _ = _
    unfold fX9_copy_l2
    have e : (10 : Int32) = Int32.ofInt 10 := rfl
    have e1 : (1 : Int32) = Int32.ofInt 1 := rfl
    rw [e, e1]
    simp only [zi_le (a := 10) (b := (k : Int)) (by omega) (by omega) (by omega) (by omega)]
    rw [if_neg (by omega), fX9_x_ok hq hk, Option.bind_some, fX9_y_ok hq hk, Option.bind_some, fX9_put_ok hp hk, Option.bind_some]
    simp only [dlet, zi_add]
    congr 3
    refine Prod.ext ?_ rfl
    funext a j
    simp only [d1, zCp]
    grind) (by
    show fX9_copy_l2 p q _ _ = _
    unfold fX9_copy_l2
    rfl)]
  rfl
