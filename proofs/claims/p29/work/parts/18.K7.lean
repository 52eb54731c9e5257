/-! the law's own run: whatever is drawn -/
theorem zgoDJ {x y : Int64} {ρ : Type} {F : Int64 → Option ρ} {R : ρ → Prop} (e : x = y) (k : ∃ r, F y = some r ∧ R r) : ∃ r, (dlet x F) = some r ∧ R r := by
  subst e; exact k
theorem zgoW {P : Prop} {dd : Decidable P} {ρ : Type} {A B : Option ρ} {R : ρ → Prop} (a : P → ∃ r, A = some r ∧ R r) (b : ¬ P → ∃ r, B = some r ∧ R r) : ∃ r, (if P then A else B) = some r ∧ R r := by
  by_cases h : P
  · rw [if_pos h]; exact a h
  · rw [if_neg h]; exact b h
theorem zgoY {P : Prop} {dd : Decidable P} {ρ : Type} {A B : Option ρ} {R : ρ → Prop} (h : P) (a : ∃ r, A = some r ∧ R r) : ∃ r, (if P then A else B) = some r ∧ R r := by rw [if_pos h]; exact a
theorem zgoX {P : Prop} {dd : Decidable P} {ρ : Type} {A B : Option ρ} {R : ρ → Prop} (h : ¬ P) (a : ∃ r, B = some r ∧ R r) : ∃ r, (if P then A else B) = some r ∧ R r := by rw [if_neg h]; exact a
theorem zgoK {b : Bool} {ρ : Type} {A : Option ρ} {R : ρ → Prop} (h : b = true) (a : ∃ r, A = some r ∧ R r) : ∃ r, (dg b A) = some r ∧ R r := by rw [dg_ok h]; exact a
/-- any call of the wrapper -/
theorem zgoQ {α ρ : Type} {x : Option (α × dM)} {v : α} {m' : dM} {F : α → dM → Option ρ} {R : ρ → Prop} (h : x = some (v, m')) (k : ∃ r, F v m' = some r ∧ R r) : ∃ r, (x.bind (fun q => dP2 q (fun v m => F v m))) = some r ∧ R r := by subst h; exact k
theorem zgoV {α ρ : Type} {x : Option ((Nat × dM) ⊕ (α × dM))} {v : α} {m' : dM} {F : α → dM → Option ρ} {R : ρ → Prop} (h : x = some (.inr (v, m'))) (k : ∃ r, F v m' = some r ∧ R r) : ∃ r, (x.bind (fun q => dS q (fun _ => none) (fun q => dP2 q (fun v m => F v m)))) = some r ∧ R r := by subst h; exact k
theorem zgoU {α ρ : Type} {x : Option α} {v : α} {F : α → Option ρ} {R : ρ → Prop} (h : x = some v) (k : ∃ r, F v = some r ∧ R r) : ∃ r, (x.bind (fun v => F v)) = some r ∧ R r := by subst h; exact k
theorem zi_mdl {a : Int} {n : Int32} (b : Int) (hn : n = Int32.ofInt b) (h1 : 0 ≤ a) (h2 : a < 2147483648) (h3 : 0 < b) (h4 : b < 2147483648) : Int32.ofInt a - Int32.ofInt a / n * n = Int32.ofInt (a % b) := by
  subst hn
  have hm : a - a / b * b = a % b := by have := Int.mul_ediv_add_emod a b; have e : a / b * b = b * (a / b) := Int.mul_comm _ _; omega
  rw [zi_dn h1 h2 (by omega) h4, zi_mul, zi_sub, hm]
theorem zi_dvl {a : Int} {n : Int32} (b : Int) (hn : n = Int32.ofInt b) (h1 : 0 ≤ a) (h2 : a < 2147483648) (h3 : 0 < b) (h4 : b < 2147483648) : Int32.ofInt a / n = Int32.ofInt (a / b) := by
  subst hn; exact zi_dn h1 h2 (by omega) h4
theorem zcmp_eq {a b : Int} (h1 : -9223372036854775808 ≤ a) (h2 : a < 9223372036854775808) (h3 : -9223372036854775808 ≤ b) (h4 : b < 9223372036854775808) : (lg_cmp (Int64.ofInt a) (Int64.ofInt b) = 0) = (a = b) := by
  unfold lg_cmp
  show ((if Int64.ofInt b < Int64.ofInt a then (1 : Int32) else if Int64.ofInt a = Int64.ofInt b then 0 else -1) = 0) = _
  simp only [zj_lt h3 h4 h1 h2, zj_eq h1 h2 h3 h4]
  by_cases c : b < a
  · rw [if_pos c]; exact propext ⟨fun h => absurd h (by decide), fun h => by omega⟩
  · rw [if_neg c]
    by_cases d : a = b
    · rw [if_pos d]; exact propext ⟨fun _ => d, fun _ => rfl⟩
    · rw [if_neg d]; exact propext ⟨fun h => absurd h (by decide), fun h => absurd h d⟩
theorem zcmp_nlt {a b : Int} (h1 : -9223372036854775808 ≤ a) (h2 : a < 9223372036854775808) (h3 : -9223372036854775808 ≤ b) (h4 : b < 9223372036854775808) (h : b ≤ a) : ¬ lg_cmp (Int64.ofInt a) (Int64.ofInt b) < 0 := by
  unfold lg_cmp
  show ¬ ((if Int64.ofInt b < Int64.ofInt a then (1 : Int32) else if Int64.ofInt a = Int64.ofInt b then 0 else -1) < 0)
  simp only [zj_lt h3 h4 h1 h2, zj_eq h1 h2 h3 h4]
  by_cases c : b < a
  · rw [if_pos c]; decide
  · rw [if_neg c, if_pos (by omega)]; decide
theorem zcmp_nge {a b : Int} (h1 : -9223372036854775808 ≤ a) (h2 : a < 9223372036854775808) (h3 : -9223372036854775808 ≤ b) (h4 : b < 9223372036854775808) (h : b ≤ a) : 0 ≤ lg_cmp (Int64.ofInt a) (Int64.ofInt b) := by
  unfold lg_cmp
  show 0 ≤ (if Int64.ofInt b < Int64.ofInt a then (1 : Int32) else if Int64.ofInt a = Int64.ofInt b then 0 else -1)
  simp only [zj_lt h3 h4 h1 h2, zj_eq h1 h2 h3 h4]
  by_cases c : b < a
  · rw [if_pos c]; decide
  · rw [if_neg c, if_pos (by omega)]; decide
theorem zcmp_lo {a b : Int} (h1 : -9223372036854775808 ≤ a) (h2 : a < 9223372036854775808) (h3 : -9223372036854775808 ≤ b) (h4 : b < 9223372036854775808) (h : a < b) : ¬ 0 ≤ lg_cmp (Int64.ofInt a) (Int64.ofInt b) := by
  unfold lg_cmp
  show ¬ 0 ≤ (if Int64.ofInt b < Int64.ofInt a then (1 : Int32) else if Int64.ofInt a = Int64.ofInt b then 0 else -1)
  simp only [zj_lt h3 h4 h1 h2, zj_eq h1 h2 h3 h4]
  rw [if_neg (by omega), if_neg (by omega)]; decide
/-- what holds at each turn: four dots, as many sets and parts as counted, the first part's counts -/
def zLw (w2 w3 w4 : Int32) (m : dM) : Prop := ∃ (S P pp : Nat) (le kn : Nat → Int) (il io : Nat → Bool) (sx sy : Nat → Nat → Int) (so : Nat → Nat) (co te : Nat → Int) (lt : Nat → Bool) (go : Nat → Nat → Nat) (px py : Nat → Nat → Int) (lo hi : Int) (cap : Nat → Nat → Int) (pen : Nat → Int) (zc : Int), zK 4 S P pp le kn il io sx sy so co te lt go px py lo hi cap pen m ∧ w2 = Int32.ofInt (S : Int) ∧ w3 = Int32.ofInt (P : Int) ∧ w4 = Int32.ofInt zc ∧ (0 < P → zc = co 0)
theorem zOr {p q : Bool} (h : (p || q) = true) (hp : p = false) : q = true := by subst hp; exact h
theorem seen63 : ∀ a, a < 6 → ∀ b, b < 6 → b ≠ a → ∀ c, c < 6 → c ≠ a → c ≠ b → ∀ d, d < 6 → d ≠ a → d ≠ b → d ≠ c → ∀ e, e < 6 → e ≠ a → e ≠ b → e ≠ c → e ≠ d → ∀ f, f < 6 → f ≠ a → f ≠ b → f ≠ c → f ≠ d → f ≠ e → (((((((0 : Int32) ||| ((1 : Int32) <<< (Int32.ofInt ((a : Nat) : Int) &&& 31))) ||| ((1 : Int32) <<< (Int32.ofInt ((b : Nat) : Int) &&& 31))) ||| ((1 : Int32) <<< (Int32.ofInt ((c : Nat) : Int) &&& 31))) ||| ((1 : Int32) <<< (Int32.ofInt ((d : Nat) : Int) &&& 31))) ||| ((1 : Int32) <<< (Int32.ofInt ((e : Nat) : Int) &&& 31))) ||| ((1 : Int32) <<< (Int32.ofInt ((f : Nat) : Int) &&& 31)) : Int32) = 63 := by
  have k : ((List.range 6).all fun a => ((List.range 6).all fun b => (b == a) || ((List.range 6).all fun c => (c == a || c == b) || ((List.range 6).all fun d => (d == a || d == b || d == c) || ((List.range 6).all fun e => (e == a || e == b || e == c || e == d) || ((List.range 6).all fun f => (f == a || f == b || f == c || f == d || f == e) || (decide ((((((((0 : Int32) ||| ((1 : Int32) <<< (Int32.ofInt ((a : Nat) : Int) &&& 31))) ||| ((1 : Int32) <<< (Int32.ofInt ((b : Nat) : Int) &&& 31))) ||| ((1 : Int32) <<< (Int32.ofInt ((c : Nat) : Int) &&& 31))) ||| ((1 : Int32) <<< (Int32.ofInt ((d : Nat) : Int) &&& 31))) ||| ((1 : Int32) <<< (Int32.ofInt ((e : Nat) : Int) &&& 31))) ||| ((1 : Int32) <<< (Int32.ofInt ((f : Nat) : Int) &&& 31))) = 63)))))))) = true := by decide +kernel
  intro a ha b hb ba c hc ca cb d hd da db dc e he ea eb ec ed f hf fa fb fc fd fe
  have k := List.all_eq_true.mp k a (List.mem_range.mpr ha)
  have k := zOr (List.all_eq_true.mp k b (List.mem_range.mpr hb)) (by simp [ba])
  have k := zOr (List.all_eq_true.mp k c (List.mem_range.mpr hc)) (by simp [ca, cb])
  have k := zOr (List.all_eq_true.mp k d (List.mem_range.mpr hd)) (by simp [da, db, dc])
  have k := zOr (List.all_eq_true.mp k e (List.mem_range.mpr he)) (by simp [ea, eb, ec, ed])
  have k := zOr (List.all_eq_true.mp k f (List.mem_range.mpr hf)) (by simp [fa, fb, fc, fd, fe])
  exact of_decide_eq_true k
theorem lawT_ok {w2 w3 w4 w5 : Int32} {m : dM} (h : zLw w2 w3 w4 m) : ∃ r, fL_lawT m w2 w3 w4 w5 = some r ∧ zLw w2 w3 w4 r := by
  obtain ⟨S, P, pp, le, kn, il, io, sx, sy, so, co, te, lt, go, px, py, lo, hi, cap, pen, zc, K, rfl, rfl, rfl, hc⟩ := h
  have back : ∀ {m : dM}, (zK 4 S P pp le kn il io sx sy so co te lt go px py lo hi cap pen m) → zLw (Int32.ofInt (S : Int)) (Int32.ofInt (P : Int)) (Int32.ofInt zc) m := fun {m} K => ⟨S, P, pp, le, kn, il, io, sx, sy, so, co, te, lt, go, px, py, lo, hi, cap, pen, zc, K, rfl, rfl, rfl, hc⟩
  unfold fL_lawT
  obtain ⟨a, ha, a1, -, e⟩ := K_ranked (r := 0) K (by decide)
  refine zgoV e (zgoD rfl ?_)
  obtain ⟨b, hb, b1, -, e⟩ := K_ranked (r := 1) K (by decide)
  refine zgoV e (zgoD rfl ?_)
  obtain ⟨c, hcc, c1, -, e⟩ := K_ranked (r := 2) K (by decide)
  refine zgoV e (zgoD rfl ?_)
  obtain ⟨d, hd, d1', -, e⟩ := K_ranked (r := 3) K (by decide)
  refine zgoV e (zgoD rfl ?_)
  obtain ⟨f, hf, f1, -, e⟩ := K_ranked (r := 4) K (by decide)
  refine zgoV e (zgoD rfl ?_)
  obtain ⟨g, hg, g1, -, e⟩ := K_ranked (r := 5) K (by decide)
  refine zgoV e (zgoD rfl ?_)
  refine zgoY (seen63 a ha b hb ?_ c hcc ?_ ?_ d hd ?_ ?_ ?_ f hf ?_ ?_ ?_ ?_ g hg ?_ ?_ ?_ ?_ ?_) ?_
  iterate 15 (intro q; subst q; omega)
  obtain ⟨m1, e, K⟩ := K_agrees K
  refine zgoG e (by decide) ?_
  refine zgoW (fun _ => ?_) (fun _ => zgoE (back K))
  obtain ⟨m2, e, K⟩ := refuses_ok K hc
  refine zgoF e (zgoE (back K))
theorem lfA {w2 w3 w4 w5 : Int32} {m : dM} {y : Int} (K : zLw w2 w3 w4 m) (hy : 0 ≤ y ∧ y < 2000000) : ∃ r, ((fL_act m 0 1 ((Int32.ofInt y) - (Int32.ofInt y) / 4 * 4) (5 + (((Int32.ofInt y) / 4) - ((Int32.ofInt y) / 4) / 36 * 36)) 0 0).bind (fun q => dP2 q (fun v10 m11 => if (lg_cmp v10 5) < 0 then none else (fL_act m11 0 3 ((Int32.ofInt y) - (Int32.ofInt y) / 3 * 3) ((((Int32.ofInt y) / 3) - ((Int32.ofInt y) / 3) / 5 * 5) - 1) ((Int32.ofInt y) - (Int32.ofInt y) / 2 * 2) 0).bind (fun q => dP2 q (fun v12 m13 => if (lg_cmp v12 1) = 0 then (fL_act m13 0 2 (((Int32.ofInt y) / 5) - ((Int32.ofInt y) / 5) / 4 * 4) (((Int32.ofInt y) / 7) - ((Int32.ofInt y) / 7) / 2 * 2) 0 0).bind (fun q => dP2 q (fun v14 m15 => if 0 ≤ (lg_cmp v14 0) then (fL_lawT m15 w2 w3 w4 w5).bind (fun m16 => some (w2, w3, w4, m16)) else none)) else none)))) : Option (Int32 × Int32 × Int32 × dM)) = some r ∧ zLw r.1 r.2.1 r.2.2.1 r.2.2.2 := by
  obtain ⟨S, P, pp, le, kn, il, io, sx, sy, so, co, te, lt, go, px, py, lo, hi, cap, pen, zc, K, rfl, rfl, rfl, hc⟩ := K
  have hS := K.2.2.1.1
  have hP := K.2.2.2.2.1.1
  rw [show Int32.ofInt y - Int32.ofInt y / 4 * 4 = Int32.ofInt (y % 4) from zi_mdl 4 rfl (by omega) (by omega) (by omega) (by omega), show Int32.ofInt y / 4 = Int32.ofInt (y / 4) from zi_dvl 4 rfl (by omega) (by omega) (by omega) (by omega), show Int32.ofInt (y / 4) - Int32.ofInt (y / 4) / 36 * 36 = Int32.ofInt (y / 4 % 36) from zi_mdl 36 rfl (by omega) (by omega) (by omega) (by omega), show (5 : Int32) + Int32.ofInt (y / 4 % 36) = Int32.ofInt (5 + y / 4 % 36) from zi_add 5 _]
  obtain ⟨m1, e, K1⟩ := g1 (a := y % 4) (b := 5 + y / 4 % 36) (c := 0) (d := 0) K (by omega) (by omega)
  have q := K.1.2.2.1 (y % 4).toNat (by omega)
  refine zgoQ e (zgoX (zcmp_nlt (b := 5) (by omega) (by omega) (by omega) (by omega) q.1) ?_)
  rw [show Int32.ofInt y - Int32.ofInt y / 3 * 3 = Int32.ofInt (y % 3) from zi_mdl 3 rfl (by omega) (by omega) (by omega) (by omega), show Int32.ofInt y / 3 = Int32.ofInt (y / 3) from zi_dvl 3 rfl (by omega) (by omega) (by omega) (by omega), show Int32.ofInt (y / 3) - Int32.ofInt (y / 3) / 5 * 5 = Int32.ofInt (y / 3 % 5) from zi_mdl 5 rfl (by omega) (by omega) (by omega) (by omega), show Int32.ofInt (y / 3 % 5) - 1 = Int32.ofInt (y / 3 % 5 - 1) from zi_sub _ 1]
  obtain ⟨m2, e, K2⟩ := g3 (a := y % 3) (b := y / 3 % 5 - 1) (c := Int32.ofInt y - Int32.ofInt y / 2 * 2) (d := 0) K1 _ rfl (by omega) (by omega)
  refine zgoQ e (zgoY (zcmp 1) ?_)
  rw [show Int32.ofInt y / 5 = Int32.ofInt (y / 5) from zi_dvl 5 rfl (by omega) (by omega) (by omega) (by omega), show Int32.ofInt (y / 5) - Int32.ofInt (y / 5) / 4 * 4 = Int32.ofInt (y / 5 % 4) from zi_mdl 4 rfl (by omega) (by omega) (by omega) (by omega)]
  obtain ⟨m3, e, K3⟩ := g2 (a := y / 5 % 4) (b := Int32.ofInt y / 7 - Int32.ofInt y / 7 / 2 * 2) (c := 0) (d := 0) K2 _ rfl (by omega)
  refine zgoQ e (zgoY (by split <;> decide) ?_)
  obtain ⟨m9, e, K9⟩ := lawT_ok (w5 := w5) ⟨S, P, pp, _, _, _, _, sx, sy, so, co, te, lt, go, px, py, lo, hi, cap, pen, zc, K3, rfl, rfl, rfl, hc⟩
  exact zgoF e (zgoE K9)
theorem lfB {w2 w3 w4 w5 : Int32} {m : dM} {y : Int} (K : zLw w2 w3 w4 m) (hy : 0 ≤ y ∧ y < 2000000) (c : ¬ w3 ≤ 0) : ∃ r, (dg (decide (¬ w3 = 0)) (dlet ((Int32.ofInt y) - (Int32.ofInt y) / w3 * w3 : Int32) (fun v10 => (fX11_fault m 0 v10 1).bind (fun q => dS q (fun _ => none) (fun q => dP2 q (fun v11 m12 => (fX11_fault m12 0 v10 0).bind (fun q => dS q (fun _ => none) (fun q => dP2 q (fun v13 m14 => dlet (if 0 ≤ v13 then 0 else 1 : Int32) (fun v15 => dlet (if 0 ≤ v11 then 0 else 1 : Int32) (fun v16 => if v15 = v16 then (fX11_fault m14 0 v10 3).bind (fun q => dS q (fun _ => none) (fun q => dP2 q (fun v17 m18 => dlet (if 0 ≤ v17 then 0 else 1 : Int32) (fun v19 => dlet (if 1 ≤ v11 then 0 else 1 : Int32) (fun v20 => if v19 = v20 then (fX11_walking m18 0 v10).bind (fun q => dS q (fun _ => none) (fun q => dP2 q (fun v21 m22 => if (lg_cmp v21 0) < 0 then none else if v10 = 0 then (fX11_walking m22 0 0).bind (fun q => dS q (fun _ => none) (fun q => dP2 q (fun v23 m24 => if (lg_cmp v23 0) = 0 then (fL_lawT m24 w2 w3 w4 w5).bind (fun m25 => some (w2, w3, w4, m25)) else none))) else (fL_lawT m22 w2 w3 w4 w5).bind (fun m26 => some (w2, w3, w4, m26))))) else none))))) else none)))))))))) : Option (Int32 × Int32 × Int32 × dM)) = some r ∧ zLw r.1 r.2.1 r.2.2.1 r.2.2.2 := by
  obtain ⟨S, P, pp, le, kn, il, io, sx, sy, so, co, te, lt, go, px, py, lo, hi, cap, pen, zc, K, rfl, rfl, rfl, hc⟩ := K
  have hS := K.2.2.1.1
  have hP := K.2.2.2.2.1.1
  have hP0 : 0 < P := by
    rw [show (0 : Int32) = Int32.ofInt 0 from rfl, zi_le (by omega) (by omega) (by omega) (by omega)] at c
    omega
  refine zgoK (decide_eq_true (show ¬ Int32.ofInt (P : Int) = 0 by rw [show (0 : Int32) = Int32.ofInt 0 from rfl, zi_eq (by omega) (by omega) (by omega) (by omega)]; omega)) ?_
  have hm : (0 : Int) ≤ y % (P : Int) ∧ y % (P : Int) < P := ⟨Int.emod_nonneg _ (by omega), Int.emod_lt_of_pos _ (by omega)⟩
  refine zgoD (zi_mdl (P : Int) rfl (by omega) (by omega) (by omega) (by omega)) ?_
  obtain ⟨k, hk⟩ := zi_nat hm.1
  rw [hk] at hm ⊢
  have hkP : k < P := by omega
  have r := K.2.2.2.2.1.2 k hkP
  obtain ⟨n, hn⟩ := zi_nat (show 0 ≤ co k by omega)
  obtain ⟨qq, hq, -⟩ := K_fault K hkP hn
  have get : ∀ {m : dM}, (zK 4 S P pp le kn il io sx sy so co te lt go px py lo hi cap pen m) → ∀ w : Nat, w < 4 → ∃ m', fX11_fault m 0 (Int32.ofInt (k : Int)) (Int32.ofInt (w : Int)) = some (.inr (Int32.ofInt (zQ qq w), m')) ∧ zK 4 S P pp le kn il io sx sy so co te lt go px py lo hi cap pen m' := fun {m} K w hw => by
    obtain ⟨q2, h2, h3⟩ := K_fault K hkP hn
    obtain rfl := zFirst_u hq h2
    exact h3 w hw
  have bd := fun w => zQ_in hq (by omega) w
  have kinds : (0 ≤ zQ qq 0 ↔ 0 ≤ zQ qq 1) ∧ (0 ≤ zQ qq 3 ↔ 1 ≤ zQ qq 1) := by
    cases qq with
    | none => simp [zQ]
    | some p =>
      obtain ⟨c, n⟩ := p
      simp only [zQ]
      refine ⟨⟨fun _ => by simp; omega, fun _ => by simp⟩, ?_⟩
      by_cases h : n < 100
      · simp [h]; omega
      · simp [h]; omega
  have eq2 : ∀ (a b c d : Int), (a ≤ b ↔ c ≤ d) → (-1000 ≤ a ∧ a ≤ 1000) → (-1000 ≤ b ∧ b ≤ 1000) → (-1000 ≤ c ∧ c ≤ 1000) → (-1000 ≤ d ∧ d ≤ 1000) → (if Int32.ofInt a ≤ Int32.ofInt b then (0 : Int32) else 1) = (if Int32.ofInt c ≤ Int32.ofInt d then 0 else 1) := fun a b c d h h1 h2 h3 h4 => by
    by_cases q : a ≤ b
    · rw [if_pos (show Int32.ofInt a ≤ Int32.ofInt b by rw [zi_le (by omega) (by omega) (by omega) (by omega)]; exact q), if_pos (show Int32.ofInt c ≤ Int32.ofInt d by rw [zi_le (by omega) (by omega) (by omega) (by omega)]; exact h.mp q)]
    · rw [if_neg (show ¬ Int32.ofInt a ≤ Int32.ofInt b by rw [zi_le (by omega) (by omega) (by omega) (by omega)]; exact q), if_neg (show ¬ Int32.ofInt c ≤ Int32.ofInt d by rw [zi_le (by omega) (by omega) (by omega) (by omega)]; exact fun w => q (h.mpr w))]
  have b0 := bd 0
  have b1 := bd 1
  have b3 := bd 3
  obtain ⟨m1, e, K⟩ := get K 1 (by decide)
  refine zgoV e ?_
  obtain ⟨m1, e, K⟩ := get K 0 (by decide)
  refine zgoV e (zgoD rfl (zgoD rfl (zgoY (eq2 0 _ 0 _ kinds.1 (by omega) (by omega) (by omega) (by omega)) ?_)))
  obtain ⟨m1, e, K⟩ := get K 3 (by decide)
  refine zgoV e (zgoD rfl (zgoD rfl (zgoY (eq2 0 _ 1 _ kinds.2 (by omega) (by omega) (by omega) (by omega)) ?_)))
  have wk := fun (j : Nat) (hj : j < P) => zWk_in K.1.2.1 K.2.2.1 K.2.2.2.2.1 hj
  have e := K_walking (a := (k : Int)) K (by omega)
  rw [Int.toNat_natCast] at e
  refine zgoV e (zgoX (zcmp_nlt (b := 0) (by have := wk k hkP; omega) (by have := wk k hkP; omega) (by omega) (by omega) (wk k hkP).1) ?_)
  refine zgoW (fun _ => ?_) (fun _ => ?_)
  · have e := K_walking (a := 0) K (by omega)
    refine zgoV e (zgoY (by rw [show (0 : Int).toNat = 0 from rfl, zWk_0]; exact zcmp 0) ?_)
    obtain ⟨m9, e, K9⟩ := lawT_ok (w5 := w5) ⟨S, P, pp, _, _, _, _, sx, sy, so, co, te, lt, go, px, py, lo, hi, cap, pen, zc, K, rfl, rfl, rfl, hc⟩
    exact zgoF e (zgoE K9)
  · obtain ⟨m9, e, K9⟩ := lawT_ok (w5 := w5) ⟨S, P, pp, _, _, _, _, sx, sy, so, co, te, lt, go, px, py, lo, hi, cap, pen, zc, K, rfl, rfl, rfl, hc⟩
    exact zgoF e (zgoE K9)
theorem lfC {w2 w3 w4 w5 : Int32} {m : dM} {y : Int} (K : zLw w2 w3 w4 m) (hy : 0 ≤ y ∧ y < 2000000) : ∃ r, ((fX11_changed m 0).bind (fun v10 => (fX11_publish m 0).bind (fun q => dP2 q (fun v11 m12 => if v11 = v10 then (fX11_changed m12 0).bind (fun v13 => if v13 = 0 then (fL_lawT m12 w2 w3 w4 w5).bind (fun m14 => some (w2, w3, w4, m14)) else none) else none))) : Option (Int32 × Int32 × Int32 × dM)) = some r ∧ zLw r.1 r.2.1 r.2.2.1 r.2.2.2 := by
  obtain ⟨S, P, pp, le, kn, il, io, sx, sy, so, co, te, lt, go, px, py, lo, hi, cap, pen, zc, K, rfl, rfl, rfl, hc⟩ := K
  have hS := K.2.2.1.1
  have hP := K.2.2.2.2.1.1
  refine zgoU (K_changed K) ?_
  obtain ⟨m1, e, K1⟩ := K_publish K
  refine zgoQ e (zgoY rfl ?_)
  refine zgoU (K_changed K1) (zgoY ?_ ?_)
  · rw [zAllCh_same]; rfl
  obtain ⟨m9, e, K9⟩ := lawT_ok (w5 := w5) ⟨S, P, P, _, _, _, _, sx, sy, so, co, te, lt, go, _, _, lo, hi, cap, pen, zc, K1, rfl, rfl, rfl, hc⟩
  exact zgoF e (zgoE K9)
theorem lfD {w2 w3 w4 w5 : Int32} {m : dM} {y : Int} (K : zLw w2 w3 w4 m) (hy : 0 ≤ y ∧ y < 2000000) : ∃ r, ((fL_act m 0 17 ((Int32.ofInt y) - (Int32.ofInt y) / 6 * 6) (((Int32.ofInt y) / 6) - ((Int32.ofInt y) / 6) / 4 * 4) ((Int32.ofInt y) - (Int32.ofInt y) / 1001 * 1001) 0).bind (fun q => dP2 q (fun v10 m11 => if (lg_cmp v10 0) < 0 then none else (fL_act m11 0 18 (((Int32.ofInt y) / 24) - ((Int32.ofInt y) / 24) / 6 * 6) ((Int32.ofInt y) - (Int32.ofInt y) / 90 * 90) 0 0).bind (fun q => dP2 q (fun v12 m13 => if 0 ≤ (lg_cmp v12 0) then (fL_lawT m13 w2 w3 w4 w5).bind (fun m14 => some (w2, w3, w4, m14)) else none)))) : Option (Int32 × Int32 × Int32 × dM)) = some r ∧ zLw r.1 r.2.1 r.2.2.1 r.2.2.2 := by
  obtain ⟨S, P, pp, le, kn, il, io, sx, sy, so, co, te, lt, go, px, py, lo, hi, cap, pen, zc, K, rfl, rfl, rfl, hc⟩ := K
  have hS := K.2.2.1.1
  have hP := K.2.2.2.2.1.1
  rw [show Int32.ofInt y - Int32.ofInt y / 6 * 6 = Int32.ofInt (y % 6) from zi_mdl 6 rfl (by omega) (by omega) (by omega) (by omega), show Int32.ofInt y / 6 = Int32.ofInt (y / 6) from zi_dvl 6 rfl (by omega) (by omega) (by omega) (by omega), show Int32.ofInt (y / 6) - Int32.ofInt (y / 6) / 4 * 4 = Int32.ofInt (y / 6 % 4) from zi_mdl 4 rfl (by omega) (by omega) (by omega) (by omega), show Int32.ofInt y - Int32.ofInt y / 1001 * 1001 = Int32.ofInt (y % 1001) from zi_mdl 1001 rfl (by omega) (by omega) (by omega) (by omega)]
  obtain ⟨v, m1, v1, v2, e, K1⟩ := g17 (a := y % 6) (b := y / 6 % 4) (c := y % 1001) (d := 0) K (by omega) (by omega) (by omega)
  refine zgoQ e (zgoX (zcmp_nlt (b := 0) (by omega) (by omega) (by omega) (by omega) v1) ?_)
  rw [show Int32.ofInt y / 24 = Int32.ofInt (y / 24) from zi_dvl 24 rfl (by omega) (by omega) (by omega) (by omega), show Int32.ofInt (y / 24) - Int32.ofInt (y / 24) / 6 * 6 = Int32.ofInt (y / 24 % 6) from zi_mdl 6 rfl (by omega) (by omega) (by omega) (by omega), show Int32.ofInt y - Int32.ofInt y / 90 * 90 = Int32.ofInt (y % 90) from zi_mdl 90 rfl (by omega) (by omega) (by omega) (by omega)]
  obtain ⟨u, m2, u1, u2, e, K2⟩ := g18 (a := y / 24 % 6) (b := y % 90) (c := 0) (d := 0) K1 (by omega) (by omega)
  refine zgoQ e (zgoY (zcmp_nge (b := 0) (by omega) (by omega) (by omega) (by omega) u1) ?_)
  obtain ⟨m9, e, K9⟩ := lawT_ok (w5 := w5) ⟨S, P, pp, _, _, _, _, sx, sy, so, co, te, lt, go, px, py, lo, hi, _, _, zc, K2, rfl, rfl, rfl, hc⟩
  exact zgoF e (zgoE K9)
theorem lfE4 {w2 w3 w4 w5 : Int32} {m : dM} {y : Int} (K : zLw w2 w3 w4 m) (hy : 0 ≤ y ∧ y < 2000000) : ∃ r, ((fL_act m 0 4 ((Int32.ofInt y) - (Int32.ofInt y) / 1601 * 1601) ((Int32.ofInt y) - (Int32.ofInt y) / 841 * 841) (((Int32.ofInt y) / 7) - ((Int32.ofInt y) / 7) / 1601 * 1601) (((Int32.ofInt y) / 3) - ((Int32.ofInt y) / 3) / 841 * 841)).bind (fun q => dP2 q (fun v10 m11 => if (lg_cmp v10 (Int32.toInt64 w2)) = 0 then dlet (if 0 ≤ (lg_cmp v10 0) then 1 else 0 : Int32) (fun v12 => dlet (w2 + v12 : Int32) (fun v13 => (fL_lawT m11 v13 w3 w4 w5).bind (fun m14 => some (v13, w3, w4, m14)))) else if (lg_cmp v10 (-72)) = 0 then dlet (if 0 ≤ (lg_cmp v10 0) then 1 else 0 : Int32) (fun v15 => dlet (w2 + v15 : Int32) (fun v16 => (fL_lawT m11 v16 w3 w4 w5).bind (fun m17 => some (v16, w3, w4, m17)))) else if (lg_cmp v10 (-73)) = 0 then dlet (if 0 ≤ (lg_cmp v10 0) then 1 else 0 : Int32) (fun v18 => dlet (w2 + v18 : Int32) (fun v19 => (fL_lawT m11 v19 w3 w4 w5).bind (fun m20 => some (v19, w3, w4, m20)))) else none)) : Option (Int32 × Int32 × Int32 × dM)) = some r ∧ zLw r.1 r.2.1 r.2.2.1 r.2.2.2 := by
  obtain ⟨S, P, pp, le, kn, il, io, sx, sy, so, co, te, lt, go, px, py, lo, hi, cap, pen, zc, K, rfl, rfl, rfl, hc⟩ := K
  have hS := K.2.2.1.1
  have hP := K.2.2.2.2.1.1
  rw [show Int32.ofInt y - Int32.ofInt y / 1601 * 1601 = Int32.ofInt (y % 1601) from zi_mdl 1601 rfl (by omega) (by omega) (by omega) (by omega), show Int32.ofInt y - Int32.ofInt y / 841 * 841 = Int32.ofInt (y % 841) from zi_mdl 841 rfl (by omega) (by omega) (by omega) (by omega), show Int32.ofInt y / 7 = Int32.ofInt (y / 7) from zi_dvl 7 rfl (by omega) (by omega) (by omega) (by omega), show Int32.ofInt (y / 7) - Int32.ofInt (y / 7) / 1601 * 1601 = Int32.ofInt (y / 7 % 1601) from zi_mdl 1601 rfl (by omega) (by omega) (by omega) (by omega), show Int32.ofInt y / 3 = Int32.ofInt (y / 3) from zi_dvl 3 rfl (by omega) (by omega) (by omega) (by omega), show Int32.ofInt (y / 3) - Int32.ofInt (y / 3) / 841 * 841 = Int32.ofInt (y / 3 % 841) from zi_mdl 841 rfl (by omega) (by omega) (by omega) (by omega)]
  obtain ⟨v, m1, e, hv⟩ := gs4 (a := y % 1601) (b := y % 841) (c := y / 7 % 1601) (d := y / 3 % 841) K (by omega)
  refine zgoQ e ?_
  have ej : (Int32.ofInt (S : Int)).toInt64 = Int64.ofInt S := zi_j (by omega) (by omega)
  rw [ej]
  rcases hv with ⟨hv, K1⟩ | ⟨rfl, hS12, sx', sy', K1⟩
  · have keep : Int32.ofInt (S : Int) + 0 = Int32.ofInt (S : Int) := by rw [show (0 : Int32) = Int32.ofInt 0 from rfl, zi_add, Int.add_zero]
    obtain ⟨m9, e9, K9⟩ := lawT_ok (w5 := w5) ⟨S, P, pp, le, kn, il, io, sx, sy, so, co, te, lt, go, px, py, lo, hi, cap, pen, zc, K1, rfl, rfl, rfl, hc⟩
    rcases hv with rfl | rfl
    · refine zgoX (by rw [show (-72 : Int64) = Int64.ofInt (-72) from rfl, zcmp_eq (by omega) (by omega) (by omega) (by omega)]; omega) (zgoY (zcmp _) (zgoD (if_neg (by decide)) (zgoD keep ?_)))
      exact zgoF e9 (zgoE K9)
    · refine zgoX (by rw [show (-73 : Int64) = Int64.ofInt (-73) from rfl, zcmp_eq (by omega) (by omega) (by omega) (by omega)]; omega) (zgoX (by decide) (zgoY (zcmp _) (zgoD (if_neg (by decide)) (zgoD keep ?_))))
      exact zgoF e9 (zgoE K9)
  · refine zgoY (zcmp _) (zgoD (if_pos (zcmp_nge (b := 0) (by omega) (by omega) (by omega) (by omega) (by omega))) (zgoD (y := Int32.ofInt ((S + 1 : Nat) : Int)) (by rw [show (1 : Int32) = Int32.ofInt 1 from rfl, zi_add]; rfl) ?_))
    obtain ⟨m9, e9, K9⟩ := lawT_ok (w5 := w5) ⟨S + 1, P, pp, le, kn, il, io, sx', sy', so, co, te, lt, go, px, py, lo, hi, cap, pen, zc, K1, rfl, rfl, rfl, hc⟩
    exact zgoF e9 (zgoE K9)
theorem lfE5 {w2 w3 w4 w5 : Int32} {m : dM} {y : Int} (K : zLw w2 w3 w4 m) (hy : 0 ≤ y ∧ y < 2000000) : ∃ r, ((fL_act m 0 5 ((Int32.ofInt y) - (Int32.ofInt y) / 1200 * 1200) ((Int32.ofInt y) - (Int32.ofInt y) / 800 * 800) (1 + ((Int32.ofInt y) - (Int32.ofInt y) / 10 * 10)) (1 + ((Int32.ofInt y) - (Int32.ofInt y) / 40 * 40))).bind (fun q => dP2 q (fun v10 m11 => if (lg_cmp v10 (Int32.toInt64 w2)) = 0 then dlet (if 0 ≤ (lg_cmp v10 0) then 1 else 0 : Int32) (fun v12 => dlet (w2 + v12 : Int32) (fun v13 => (fL_lawT m11 v13 w3 w4 w5).bind (fun m14 => some (v13, w3, w4, m14)))) else if (lg_cmp v10 (-72)) = 0 then dlet (if 0 ≤ (lg_cmp v10 0) then 1 else 0 : Int32) (fun v15 => dlet (w2 + v15 : Int32) (fun v16 => (fL_lawT m11 v16 w3 w4 w5).bind (fun m17 => some (v16, w3, w4, m17)))) else if (lg_cmp v10 (-73)) = 0 then dlet (if 0 ≤ (lg_cmp v10 0) then 1 else 0 : Int32) (fun v18 => dlet (w2 + v18 : Int32) (fun v19 => (fL_lawT m11 v19 w3 w4 w5).bind (fun m20 => some (v19, w3, w4, m20)))) else none)) : Option (Int32 × Int32 × Int32 × dM)) = some r ∧ zLw r.1 r.2.1 r.2.2.1 r.2.2.2 := by
  obtain ⟨S, P, pp, le, kn, il, io, sx, sy, so, co, te, lt, go, px, py, lo, hi, cap, pen, zc, K, rfl, rfl, rfl, hc⟩ := K
  have hS := K.2.2.1.1
  have hP := K.2.2.2.2.1.1
  rw [show Int32.ofInt y - Int32.ofInt y / 1200 * 1200 = Int32.ofInt (y % 1200) from zi_mdl 1200 rfl (by omega) (by omega) (by omega) (by omega), show Int32.ofInt y - Int32.ofInt y / 800 * 800 = Int32.ofInt (y % 800) from zi_mdl 800 rfl (by omega) (by omega) (by omega) (by omega), show Int32.ofInt y - Int32.ofInt y / 10 * 10 = Int32.ofInt (y % 10) from zi_mdl 10 rfl (by omega) (by omega) (by omega) (by omega), show Int32.ofInt y - Int32.ofInt y / 40 * 40 = Int32.ofInt (y % 40) from zi_mdl 40 rfl (by omega) (by omega) (by omega) (by omega), show (1 : Int32) + Int32.ofInt (y % 10) = Int32.ofInt (1 + y % 10) from zi_add 1 _, show (1 : Int32) + Int32.ofInt (y % 40) = Int32.ofInt (1 + y % 40) from zi_add 1 _]
  obtain ⟨v, m1, e, hv⟩ := gs5 (a := y % 1200) (b := y % 800) (c := 1 + y % 10) (d := 1 + y % 40) K (by omega)
  refine zgoQ e ?_
  have ej : (Int32.ofInt (S : Int)).toInt64 = Int64.ofInt S := zi_j (by omega) (by omega)
  rw [ej]
  rcases hv with ⟨hv, K1⟩ | ⟨rfl, hS12, sx', sy', K1⟩
  · have keep : Int32.ofInt (S : Int) + 0 = Int32.ofInt (S : Int) := by rw [show (0 : Int32) = Int32.ofInt 0 from rfl, zi_add, Int.add_zero]
    obtain ⟨m9, e9, K9⟩ := lawT_ok (w5 := w5) ⟨S, P, pp, le, kn, il, io, sx, sy, so, co, te, lt, go, px, py, lo, hi, cap, pen, zc, K1, rfl, rfl, rfl, hc⟩
    rcases hv with rfl | rfl
    · refine zgoX (by rw [show (-72 : Int64) = Int64.ofInt (-72) from rfl, zcmp_eq (by omega) (by omega) (by omega) (by omega)]; omega) (zgoY (zcmp _) (zgoD (if_neg (by decide)) (zgoD keep ?_)))
      exact zgoF e9 (zgoE K9)
    · refine zgoX (by rw [show (-73 : Int64) = Int64.ofInt (-73) from rfl, zcmp_eq (by omega) (by omega) (by omega) (by omega)]; omega) (zgoX (by decide) (zgoY (zcmp _) (zgoD (if_neg (by decide)) (zgoD keep ?_))))
      exact zgoF e9 (zgoE K9)
  · refine zgoY (zcmp _) (zgoD (if_pos (zcmp_nge (b := 0) (by omega) (by omega) (by omega) (by omega) (by omega))) (zgoD (y := Int32.ofInt ((S + 1 : Nat) : Int)) (by rw [show (1 : Int32) = Int32.ofInt 1 from rfl, zi_add]; rfl) ?_))
    obtain ⟨m9, e9, K9⟩ := lawT_ok (w5 := w5) ⟨S + 1, P, pp, le, kn, il, io, sx', sy', so, co, te, lt, go, px, py, lo, hi, cap, pen, zc, K1, rfl, rfl, rfl, hc⟩
    exact zgoF e9 (zgoE K9)
theorem lfE6 {w2 w3 w4 w5 : Int32} {m : dM} {y : Int} (K : zLw w2 w3 w4 m) (hy : 0 ≤ y ∧ y < 2000000) : ∃ r, ((fL_act m 0 6 ((Int32.ofInt y) - (Int32.ofInt y) / 1600 * 1600) ((Int32.ofInt y) - (Int32.ofInt y) / 800 * 800) (1 + ((Int32.ofInt y) - (Int32.ofInt y) / 50 * 50)) 0).bind (fun q => dP2 q (fun v10 m11 => if (lg_cmp v10 (Int32.toInt64 w2)) = 0 then dlet (if 0 ≤ (lg_cmp v10 0) then 1 else 0 : Int32) (fun v12 => dlet (w2 + v12 : Int32) (fun v13 => (fL_lawT m11 v13 w3 w4 w5).bind (fun m14 => some (v13, w3, w4, m14)))) else if (lg_cmp v10 (-72)) = 0 then dlet (if 0 ≤ (lg_cmp v10 0) then 1 else 0 : Int32) (fun v15 => dlet (w2 + v15 : Int32) (fun v16 => (fL_lawT m11 v16 w3 w4 w5).bind (fun m17 => some (v16, w3, w4, m17)))) else if (lg_cmp v10 (-73)) = 0 then dlet (if 0 ≤ (lg_cmp v10 0) then 1 else 0 : Int32) (fun v18 => dlet (w2 + v18 : Int32) (fun v19 => (fL_lawT m11 v19 w3 w4 w5).bind (fun m20 => some (v19, w3, w4, m20)))) else none)) : Option (Int32 × Int32 × Int32 × dM)) = some r ∧ zLw r.1 r.2.1 r.2.2.1 r.2.2.2 := by
  obtain ⟨S, P, pp, le, kn, il, io, sx, sy, so, co, te, lt, go, px, py, lo, hi, cap, pen, zc, K, rfl, rfl, rfl, hc⟩ := K
  have hS := K.2.2.1.1
  have hP := K.2.2.2.2.1.1
  rw [show Int32.ofInt y - Int32.ofInt y / 1600 * 1600 = Int32.ofInt (y % 1600) from zi_mdl 1600 rfl (by omega) (by omega) (by omega) (by omega), show Int32.ofInt y - Int32.ofInt y / 800 * 800 = Int32.ofInt (y % 800) from zi_mdl 800 rfl (by omega) (by omega) (by omega) (by omega), show Int32.ofInt y - Int32.ofInt y / 50 * 50 = Int32.ofInt (y % 50) from zi_mdl 50 rfl (by omega) (by omega) (by omega) (by omega), show (1 : Int32) + Int32.ofInt (y % 50) = Int32.ofInt (1 + y % 50) from zi_add 1 _]
  obtain ⟨v, m1, e, hv⟩ := gs6 (a := y % 1600) (b := y % 800) (c := 1 + y % 50) (d0 := 0) K (by omega)
  refine zgoQ e ?_
  have ej : (Int32.ofInt (S : Int)).toInt64 = Int64.ofInt S := zi_j (by omega) (by omega)
  rw [ej]
  rcases hv with ⟨hv, K1⟩ | ⟨rfl, hS12, sx', sy', K1⟩
  · have keep : Int32.ofInt (S : Int) + 0 = Int32.ofInt (S : Int) := by rw [show (0 : Int32) = Int32.ofInt 0 from rfl, zi_add, Int.add_zero]
    obtain ⟨m9, e9, K9⟩ := lawT_ok (w5 := w5) ⟨S, P, pp, le, kn, il, io, sx, sy, so, co, te, lt, go, px, py, lo, hi, cap, pen, zc, K1, rfl, rfl, rfl, hc⟩
    rcases hv with rfl | rfl
    · refine zgoX (by rw [show (-72 : Int64) = Int64.ofInt (-72) from rfl, zcmp_eq (by omega) (by omega) (by omega) (by omega)]; omega) (zgoY (zcmp _) (zgoD (if_neg (by decide)) (zgoD keep ?_)))
      exact zgoF e9 (zgoE K9)
    · refine zgoX (by rw [show (-73 : Int64) = Int64.ofInt (-73) from rfl, zcmp_eq (by omega) (by omega) (by omega) (by omega)]; omega) (zgoX (by decide) (zgoY (zcmp _) (zgoD (if_neg (by decide)) (zgoD keep ?_))))
      exact zgoF e9 (zgoE K9)
  · refine zgoY (zcmp _) (zgoD (if_pos (zcmp_nge (b := 0) (by omega) (by omega) (by omega) (by omega) (by omega))) (zgoD (y := Int32.ofInt ((S + 1 : Nat) : Int)) (by rw [show (1 : Int32) = Int32.ofInt 1 from rfl, zi_add]; rfl) ?_))
    obtain ⟨m9, e9, K9⟩ := lawT_ok (w5 := w5) ⟨S + 1, P, pp, le, kn, il, io, sx', sy', so, co, te, lt, go, px, py, lo, hi, cap, pen, zc, K1, rfl, rfl, rfl, hc⟩
    exact zgoF e9 (zgoE K9)
theorem lfF {w2 w3 w4 w5 : Int32} {m : dM} {y : Int} (K : zLw w2 w3 w4 m) (hy : 0 ≤ y ∧ y < 2000000) (c : ¬ w2 ≤ 0) : ∃ r, (dlet (1 + ((Int32.ofInt y) - (Int32.ofInt y) / 16 * 16) : Int32) (fun v10 => dg (decide (¬ w2 = 0)) ((fL_act m 0 7 ((Int32.ofInt y) - (Int32.ofInt y) / w2 * w2) v10 (60 + ((Int32.ofInt y) - (Int32.ofInt y) / 181 * 181)) ((Int32.ofInt y) - (Int32.ofInt y) / 2 * 2)).bind (fun q => dP2 q (fun v11 m12 => dlet (if 12 ≤ w3 then (-73) else Int32.toInt64 w3 : Int64) (fun v13 => if (lg_cmp v11 v13) = 0 then dlet (if w3 = 0 then v10 else w4 : Int32) (fun v14 => dlet (if 12 ≤ w3 then 0 else 1 : Int32) (fun v15 => dlet (w3 + v15 : Int32) (fun v16 => (fL_lawT m12 w2 v16 v14 w5).bind (fun m17 => some (w2, v16, v14, m17))))) else none))))) : Option (Int32 × Int32 × Int32 × dM)) = some r ∧ zLw r.1 r.2.1 r.2.2.1 r.2.2.2 := by
  obtain ⟨S, P, pp, le, kn, il, io, sx, sy, so, co, te, lt, go, px, py, lo, hi, cap, pen, zc, K, rfl, rfl, rfl, hc⟩ := K
  have hS := K.2.2.1.1
  have hP := K.2.2.2.2.1.1
  have hS0 : 0 < S := by
    rw [show (0 : Int32) = Int32.ofInt 0 from rfl, zi_le (by omega) (by omega) (by omega) (by omega)] at c
    omega
  have hm : (0 : Int) ≤ y % (S : Int) ∧ y % (S : Int) < S := ⟨Int.emod_nonneg _ (by omega), Int.emod_lt_of_pos _ (by omega)⟩
  rw [show Int32.ofInt y - Int32.ofInt y / 16 * 16 = Int32.ofInt (y % 16) from zi_mdl 16 rfl (by omega) (by omega) (by omega) (by omega), show Int32.ofInt y - Int32.ofInt y / Int32.ofInt (S : Int) * Int32.ofInt (S : Int) = Int32.ofInt (y % (S : Int)) from zi_mdl (S : Int) rfl (by omega) (by omega) (by omega) (by omega), show Int32.ofInt y - Int32.ofInt y / 181 * 181 = Int32.ofInt (y % 181) from zi_mdl 181 rfl (by omega) (by omega) (by omega) (by omega), show (1 : Int32) + Int32.ofInt (y % 16) = Int32.ofInt (1 + y % 16) from zi_add 1 _, show (60 : Int32) + Int32.ofInt (y % 181) = Int32.ofInt (60 + y % 181) from zi_add 60 _]
  refine zgoD rfl ?_
  refine zgoK (decide_eq_true (show ¬ Int32.ofInt (S : Int) = 0 by rw [show (0 : Int32) = Int32.ofInt 0 from rfl, zi_eq (by omega) (by omega) (by omega) (by omega)]; omega)) ?_
  have ej : (Int32.ofInt (P : Int)).toInt64 = Int64.ofInt P := zi_j (by omega) (by omega)
  by_cases hP12 : P < 12
  · obtain ⟨m1, go', e, K1⟩ := g7 (a := y % (S : Int)) (b := 1 + y % 16) (c := 60 + y % 181) (d := Int32.ofInt y - Int32.ofInt y / 2 * 2) K _ rfl hm (by omega) (by omega) hP12
    have n12 : ¬ (12 : Int32) ≤ Int32.ofInt (P : Int) := by rw [show (12 : Int32) = Int32.ofInt 12 from rfl, zi_le (by omega) (by omega) (by omega) (by omega)]; omega
    refine zgoQ e (zgoDJ ((if_neg n12).trans ej) (zgoY (zcmp _) ?_))
    by_cases hP0 : P = 0
    · subst hP0
      refine zgoD (if_pos rfl) (zgoD (if_neg n12) (zgoD (y := Int32.ofInt ((0 + 1 : Nat) : Int)) rfl ?_))
      obtain ⟨m9, e9, K9⟩ := lawT_ok (w5 := w5) ⟨S, 0 + 1, pp, le, kn, il, io, sx, sy, _, _, _, _, go', px, py, lo, hi, cap, pen, 1 + y % 16, K1, rfl, rfl, rfl, fun _ => zUp_at.symm⟩
      exact zgoF e9 (zgoE K9)
    · refine zgoD (if_neg (by rw [show (0 : Int32) = Int32.ofInt 0 from rfl, zi_eq (by omega) (by omega) (by omega) (by omega)]; omega)) (zgoD (if_neg n12) (zgoD (y := Int32.ofInt ((P + 1 : Nat) : Int)) (by rw [show (1 : Int32) = Int32.ofInt 1 from rfl, zi_add]; rfl) ?_))
      obtain ⟨m9, e9, K9⟩ := lawT_ok (w5 := w5) ⟨S, P + 1, pp, le, kn, il, io, sx, sy, _, _, _, _, go', px, py, lo, hi, cap, pen, zc, K1, rfl, rfl, rfl, fun _ => by rw [zUp_ne (by omega)]; exact hc (by omega)⟩
      exact zgoF e9 (zgoE K9)
  · have h12 : P = 12 := by omega
    obtain ⟨m1, e, K1⟩ := r7_73 (a := y % (S : Int)) (b := 1 + y % 16) (c := 60 + y % 181) (d := (Int32.ofInt y - Int32.ofInt y / 2 * 2).toInt) K ⟨by omega, by omega, by omega, Int32.le_toInt _, Int32.toInt_lt _⟩ ⟨hm, by omega, by omega, h12⟩
    rw [Int32.ofInt_toInt] at e
    have n12 : (12 : Int32) ≤ Int32.ofInt (P : Int) := by rw [h12]; decide
    have n0 : ¬ Int32.ofInt (P : Int) = 0 := by rw [h12]; decide
    refine zgoQ e (zgoDJ (if_pos n12) (zgoY (zcmp _) (zgoD (if_neg n0) (zgoD (if_pos n12) (zgoD (y := Int32.ofInt (P : Int)) (by rw [show (0 : Int32) = Int32.ofInt 0 from rfl, zi_add, Int.add_zero]) ?_)))))
    obtain ⟨m9, e9, K9⟩ := lawT_ok (w5 := w5) ⟨S, P, pp, le, kn, il, io, sx, sy, so, co, te, lt, go, px, py, lo, hi, cap, pen, zc, K1, rfl, rfl, rfl, hc⟩
    exact zgoF e9 (zgoE K9)
theorem lawI_ok {w2 w3 w4 w5 : Int32} {m : dM} {x : Int} (K : zLw w2 w3 w4 m) (hx : 0 ≤ x ∧ x < 17000000) : ∃ r, fL_lawI m w2 w3 w4 w5 (Int32.ofInt x) = some r ∧ zLw r.1 r.2.1 r.2.2.1 r.2.2.2 := by
  unfold fL_lawI
  have hy : 0 ≤ x / 9 ∧ x / 9 < 2000000 := by omega
  refine zgoD rfl (zgoD (zi_dvl 9 rfl (by omega) (by omega) (by omega) (by omega)) ?_)
  refine zgoW (fun c => ?_) (fun c => ?_)
  · refine zgoW (fun c => ?_) (fun c => ?_)
    · refine zgoW (fun c => ?_) (fun c => ?_)
      · exact lfA K hy
      · refine zgoW (fun c => ?_) (fun c => ?_)
        · refine zgoW (fun c => ?_) (fun c => ?_)
          · refine zgoW (fun c => ?_) (fun c => ?_)
            · exact lfC K hy
            · exact lfD K hy
          · exact lfB K hy c
        · refine zgoW (fun c => ?_) (fun c => ?_)
          · exact lfC K hy
          · exact lfD K hy
    · refine zgoW (fun c => ?_) (fun c => ?_)
      · refine zgoW (fun c => ?_) (fun c => ?_)
        · exact lfA K hy
        · refine zgoW (fun c => ?_) (fun c => ?_)
          · refine zgoW (fun c => ?_) (fun c => ?_)
            · refine zgoW (fun c => ?_) (fun c => ?_)
              · exact lfC K hy
              · exact lfD K hy
            · exact lfB K hy c
          · refine zgoW (fun c => ?_) (fun c => ?_)
            · exact lfC K hy
            · exact lfD K hy
      · exact lfF K hy c
  · refine zgoW (fun c => ?_) (fun c => ?_)
    · exact lfE4 K hy
    · refine zgoW (fun c => ?_) (fun c => ?_)
      · exact lfE5 K hy
      · exact lfE6 K hy
/-- what is drawn of an int -/
theorem zShu (z : Int32) : ∃ x : Int, (z.toUInt32 >>> ((8 : Int32).toUInt32 &&& Int32.toUInt32 31)).toInt32 = Int32.ofInt x ∧ 0 ≤ x ∧ x < 16777216 := by
  have e8 : (8 : Int32).toUInt32 &&& Int32.toUInt32 31 = 8 := by decide
  have h2 : z.toUInt32.toNat >>> 8 < 16777216 := by
    have := z.toUInt32.toNat_lt
    omega
  have h : (z.toUInt32 >>> (8 : UInt32)).toNat < 16777216 := by rw [UInt32.toNat_shiftRight]; exact h2
  refine ⟨((z.toUInt32 >>> (8 : UInt32)).toNat : Int), ?_, by omega, by omega⟩
  rw [e8]
  rw [show Int32.ofInt ((z.toUInt32 >>> (8 : UInt32)).toNat : Int) = Int32.ofNat (z.toUInt32 >>> (8 : UInt32)).toNat from Int32.ofInt_eq_ofNat]
  apply Int32.toBitVec_inj.mp
  apply BitVec.eq_of_toNat_eq
  rw [Int32.toBitVec_ofNat']
  simp
  exact (Nat.mod_eq_of_lt (show z.toUInt32.toNat >>> 8 < 4294967296 by omega)).symm
theorem law_x {xs : Nat → Int32} {nL k : Nat} (hk : k < 60) : ∃ x : Int, fLaw_x xs nL (nI k) = Int32.ofInt x ∧ 0 ≤ x ∧ x < 17000000 := by
  unfold fLaw_x
  by_cases h : nI nL = 0
  · rw [if_pos h]
    exact ⟨103 * k, by rw [zi_nI, show (103 : Int32) = Int32.ofInt 103 from rfl, zi_mul], by omega, by omega⟩
  · rw [if_neg h]
    obtain ⟨x, e, h1, h2⟩ := zShu (xs (Int32.toNatClampNeg (nI k - nI k / nI nL * nI nL)))
    exact ⟨x, e, h1, by omega⟩
theorem law_all {xs : Nat → Int32} {nL : Nat} : ∀ (n k : Nat) (w2 w3 w4 : Int32) (m : dM), n + k = 60 → zLw w2 w3 w4 m → fLaw_it xs nL n (nI k) w2 w3 w4 m = some () := by
  intro n
  induction n with
  | zero => intro k w2 w3 w4 m _ _; rfl
  | succ n ih =>
    intro k w2 w3 w4 m hnk K
    obtain ⟨x, ex, x1, x2⟩ := law_x (xs := xs) (nL := nL) (k := k) (by omega)
    show (fL_lawI m w2 w3 w4 (nI k) (fLaw_x xs nL (nI k))).bind (fun q => fLaw_it xs nL n (nI k + 1) q.1 q.2.1 q.2.2.1 q.2.2.2) = some ()
    rw [ex]
    obtain ⟨r, e, K'⟩ := lawI_ok (w5 := nI k) K ⟨x1, x2⟩
    rw [e, Option.bind_some]
    have := ih (k + 1) r.1 r.2.1 r.2.2.1 r.2.2.2 (by omega) K'
    rw [show nI (k + 1) = nI k + 1 from (nI_add k 1).symm] at this
    exact this
theorem law_ok (xs : Nat → Int32) (nL : Nat) : fLaw_it xs nL 60 0 0 0 0 dI = some () :=
  law_all 60 0 0 0 0 dI rfl ⟨0, 0, 0, _, _, _, _, _, _, _, _, _, _, _, _, _, _, _, _, _, 0, K_dI, rfl, rfl, rfl, fun q => absurd q (by decide)⟩
