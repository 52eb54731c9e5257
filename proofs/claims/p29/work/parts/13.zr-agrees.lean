theorem zSum_mul {f : Nat → Int} {k : Int} : ∀ n : Nat, zSum (fun d => k * f d) n = k * zSum f n
  | 0 => by show (0 : Int) = k * 0; omega
  | n + 1 => by show zSum (fun d => k * f d) n + k * f n = k * (zSum f n + f n); rw [zSum_mul n, Int.mul_add]
def zDig (N : Nat) (h : Nat → Nat) (n : Nat) : Int := zSum (fun d => 10 ^ (N - 1 - d) * (h d : Int)) n
theorem zCost_eq {N : Nat} {w : Nat → Nat → Int} {h : Nat → Nat} : zCost N w h = 10000000000 * zSum (fun d => w d (h d)) N + zDig N h N := by
  unfold zCost zDig
  rw [zSum_add (f := fun d => 10000000000 * w d (h d)), zSum_mul (f := fun d => w d (h d))]
theorem zDig_in {N : Nat} {h : Nat → Nat} (hh : ∀ d, d < N → h d ≤ 9) : ∀ n : Nat, n ≤ N → 0 ≤ zDig N h n ∧ zDig N h n ≤ 10 ^ N - 10 ^ (N - n)
  | 0, _ => ⟨by show (0 : Int) ≤ 0; omega, by show (0 : Int) ≤ 10 ^ N - 10 ^ (N - 0); rw [Nat.sub_zero]; omega⟩
  | n + 1, hn => by
    have ih := zDig_in hh n (by omega)
    have b := hh n (by omega)
    have e : zDig N h (n + 1) = zDig N h n + 10 ^ (N - 1 - n) * (h n : Int) := rfl
    have p : (10 : Int) ^ (N - n) = 10 * 10 ^ (N - 1 - n) := by
      rw [show N - n = (N - 1 - n) + 1 by omega, Int.pow_succ, Int.mul_comm]
    have q : (0 : Int) < 10 ^ (N - 1 - n) := Int.pow_pos (by decide)
    have r := Int.mul_le_mul_of_nonneg_left (show (h n : Int) ≤ 9 by omega) (Int.le_of_lt q)
    have s := Int.mul_nonneg (Int.le_of_lt q) (show (0 : Int) ≤ (h n : Int) by omega)
    rw [show N - (n + 1) = N - 1 - n by omega, e]
    omega
theorem zDig_lt {N : Nat} {h : Nat → Nat} (hN : N ≤ 10) (hh : ∀ d, d < N → h d ≤ 9) : 0 ≤ zDig N h N ∧ zDig N h N < 10000000000 := by
  have a := zDig_in hh N (by omega)
  rw [Nat.sub_self] at a
  have b : (10 : Int) ^ N ≤ 10 ^ 10 := by
    have : ∀ k : Fin 11, (10 : Int) ^ k.val ≤ 10 ^ 10 := by decide
    exact this ⟨N, by omega⟩
  have c : (10 : Int) ^ 10 = 10000000000 := by decide
  have e : (10 : Int) ^ 0 = 1 := rfl
  omega
theorem zSum_two {f g : Nat → Int} {n a b : Nat} (ha : a < n) (hb : b < n) (hab : a ≠ b) (h : ∀ d, d < n → d ≠ a → d ≠ b → f d = g d) : zSum f n = zSum g n + (f a - g a) + (f b - g b) := by
  have e1 := zSum_one (v := f a - g a) (n := n) (f := fun c => c) (p := a) (d := a) ha rfl (fun c _ q => q)
  have e2 := zSum_one (v := f b - g b) (n := n) (f := fun c => c) (p := b) (d := b) hb rfl (fun c _ q => q)
  rw [← e1, ← e2, ← zSum_add, ← zSum_add]
  refine zSum_congr n (fun d hd => ?_)
  show f d = g d + (if d = a then f a - g a else 0) + (if d = b then f b - g b else 0)
  by_cases c1 : d = a
  · subst c1; rw [if_pos rfl, if_neg hab]; omega
  · by_cases c2 : d = b
    · subst c2; rw [if_neg c1, if_pos rfl]; omega
    · rw [if_neg c1, if_neg c2, h d hd c1 c2]; omega
theorem zBest_swap {N : Nat} {w : Nat → Nat → Int} {g : Nat → Nat} (hN : N ≤ 10) (h : zBest N w g) {d e : Nat} (hde : d < e) (he : e < N) : w d (g d) + w e (g e) ≤ w d (g e) + w e (g d) := by
  obtain ⟨⟨g1, g2⟩, h⟩ := h
  have hi : zInj N (fun c => if c = d then g e else if c = e then g d else g c) := by
    refine ⟨fun c hc => ?_, fun a b ha hb q => ?_⟩
    · show (if c = d then g e else if c = e then g d else g c) < N
      split
      · exact g1 e he
      · split
        · exact g1 d (by omega)
        · exact g1 c hc
    · have q : (if a = d then g e else if a = e then g d else g a) = (if b = d then g e else if b = e then g d else g b) := q
      by_cases a1 : a = d
      · rw [if_pos a1] at q
        by_cases b1 : b = d
        · omega
        · rw [if_neg b1] at q
          by_cases b2 : b = e
          · rw [if_pos b2] at q; have := g2 e d he (by omega) q; omega
          · rw [if_neg b2] at q; have := g2 e b he hb q; omega
      · rw [if_neg a1] at q
        by_cases a2 : a = e
        · rw [if_pos a2] at q
          by_cases b1 : b = d
          · rw [if_pos b1] at q; have := g2 d e (by omega) he q; omega
          · rw [if_neg b1] at q
            by_cases b2 : b = e
            · omega
            · rw [if_neg b2] at q; have := g2 d b (by omega) hb q; omega
        · rw [if_neg a2] at q
          by_cases b1 : b = d
          · rw [if_pos b1] at q; have := g2 a e ha he q; omega
          · rw [if_neg b1] at q
            by_cases b2 : b = e
            · rw [if_pos b2] at q; have := g2 a d ha (by omega) q; omega
            · rw [if_neg b2] at q; exact g2 a b ha hb q
  rcases h _ hi with q | q
  · have q := q d (by omega)
    have q : (if d = d then g e else _) = g d := q
    rw [if_pos rfl] at q
    have := g2 e d he (by omega) q
    omega
  · rw [zCost_eq, zCost_eq] at q
    have b1 := zDig_lt (N := N) (h := g) hN (fun c hc => by have := g1 c hc; omega)
    have b2 := zDig_lt (N := N) (h := fun c => if c = d then g e else if c = e then g d else g c) hN (fun c hc => by
      have t : (if c = d then g e else if c = e then g d else g c) < N := hi.1 c hc
      show (if c = d then g e else if c = e then g d else g c) ≤ 9
      omega)
    have t := zSum_two (f := fun c => w c (if c = d then g e else if c = e then g d else g c)) (g := fun c => w c (g c)) (n := N) (a := d) (b := e) (by omega) he (by omega) (fun c _ c1 c2 => by
      show w c (if c = d then g e else if c = e then g d else g c) = w c (g c)
      rw [if_neg c1, if_neg c2])
    have t : zSum (fun c => w c (if c = d then g e else if c = e then g d else g c)) N = zSum (fun c => w c (g c)) N + (w d (if d = d then g e else if d = e then g d else g d) - w d (g d)) + (w e (if e = d then g e else if e = e then g d else g e) - w e (g e)) := t
    rw [if_pos rfl, if_neg (show ¬ e = d by omega), if_pos rfl] at t
    have q : 10000000000 * zSum (fun d => w d (g d)) N + zDig N g N < 10000000000 * zSum (fun c => w c (if c = d then g e else if c = e then g d else g c)) N + zDig N (fun c => if c = d then g e else if c = e then g d else g c) N := q
    omega
theorem zSqC2 {m : dM} {N S P : Nat} {sx sy : Nat → Nat → Int} {so : Nat → Nat} {co te : Nat → Int} {lt : Nat → Bool} {go : Nat → Nat → Nat} (hN : N ≤ 10) (hr : zPr N S P sx sy so co te lt go) (h : zPc N P sx sy so co te lt go m) {i d e : Nat} (hi : i < P) (hd : d < N) (he : e < N) : fX9_squareTo m (49 + 8 * i + 1) (Int32.ofInt (d : Int)) (49 + 8 * i + 4) (Int32.ofInt (e : Int)) = some (Int32.ofInt (zW sx sy so go i d (go i e))) := by
  have hP := hr.1
  have c5 := (h.2 i hi).2.2.2.2 d hd
  have c6 := (h.2 i hi).2.2.2.2 e he
  obtain ⟨s1, s2, s3⟩ := kPst (show i < 12 by omega)
  rw [zSqC s1 s2 (by omega) (by omega) c5.2.2.2.1 c5.2.2.2.2 c6.2.1 c6.2.2.1, zSq_sym]
  rfl
theorem zW_in {N S P : Nat} {sx sy : Nat → Nat → Int} {so : Nat → Nat} {co te : Nat → Int} {lt : Nat → Bool} {go : Nat → Nat → Nat} (hs : zSr N S sx sy) (hr : zPr N S P sx sy so co te lt go) {i d p : Nat} (hi : i < P) (hd : d < N) (hp : p < N) : 0 ≤ zW sx sy so go i d p ∧ zW sx sy so go i d p ≤ 5120000 := by
  obtain ⟨q1, q2, q3, q4⟩ := hs.2 (so i) (hr.2 i hi).1 p hp
  obtain ⟨b3, b4⟩ := zX_in hs hr (show i - 1 < P by omega) hd
  exact zSq_in (by omega) (by omega) (by omega) (by omega) (by omega) (by omega) (by omega) (by omega)
theorem fX5_isBetter_ok {N S P : Nat} {sx sy : Nat → Nat → Int} {so : Nat → Nat} {co te : Nat → Int} {lt : Nat → Bool} {go : Nat → Nat → Nat} {m : dM} (hN : N ≤ 10) (hs : zSr N S sx sy) (hr : zPr N S P sx sy so co te lt go) (h : zPc N P sx sy so co te lt go m) {i : Nat} (hi : i < P) (hb : zBest N (zW sx sy so go i) (go i)) : fX5_isBetterWithTwoChanged m (49 + 8 * i) (Int32.ofInt N) = some 0 := by
  have hP := hr.1
  have r7 := (hr.2 i hi).2.2.2.2.2.2
  unfold fX5_isBetterWithTwoChanged
  rw [dg_ok (kPart (by omega))]
  have e := dlp_for (f := fun v2 => fX5_isBetterWithTwoChanged_l2 m (49 + 8 * i) (Int32.ofInt N) v2) (r := .inr ()) (fun k => Int32.ofInt (k : Int)) N 0 N dFl (by omega) (by show N < 100000; omega) (fun k _ hk => by
    show fX5_isBetterWithTwoChanged_l2 m (49 + 8 * i) (Int32.ofInt N) (Int32.ofInt (k : Int)) = some (.inl (Int32.ofInt ((k + 1 : Nat) : Int)))
    unfold fX5_isBetterWithTwoChanged_l2
    rw [if_neg (by rw [zi_le (by omega) (by omega) (by omega) (by omega)]; omega), zi_1, dlet_v, show ((k : Int) + 1) = ((k + 1 : Nat) : Int) from rfl]
    have e := dlp_for (f := fun v31 => fX5_isBetterWithTwoChanged_l11 m (49 + 8 * i) (Int32.ofInt N) (Int32.ofInt (k : Int)) v31) (r := .inr ()) (fun j => Int32.ofInt (j : Int)) (N - (k + 1)) (k + 1) N dFl (by omega) (by show _ < 100000; omega) (fun j hj1 hj => by
      show fX5_isBetterWithTwoChanged_l11 m (49 + 8 * i) (Int32.ofInt N) (Int32.ofInt (k : Int)) (Int32.ofInt (j : Int)) = some (.inl (Int32.ofInt ((j + 1 : Nat) : Int)))
      have sw := zBest_swap hN hb (show k < j by omega) hj
      have b1 := zW_in hs hr hi hk (r7 k hk)
      have b2 := zW_in hs hr hi hj (r7 j hj)
      have b3 := zW_in hs hr hi hk (r7 j hj)
      have b4 := zW_in hs hr hi hj (r7 k hk)
      unfold fX5_isBetterWithTwoChanged_l11
      rw [if_neg (by rw [zi_le (by omega) (by omega) (by omega) (by omega)]; omega), zSqC2 hN hr h hi hk hk, Option.bind_some, zSqC2 hN hr h hi hj hj, Option.bind_some, zi_add, dlet_v, zSqC2 hN hr h hi hk hj, Option.bind_some, zSqC2 hN hr h hi hj hk, Option.bind_some, zi_add, dlet_v, if_pos (by rw [zi_le (by omega) (by omega) (by omega) (by omega)]; exact sw), zi_1]
      rfl) (by
      show fX5_isBetterWithTwoChanged_l11 m (49 + 8 * i) (Int32.ofInt N) (Int32.ofInt (k : Int)) (Int32.ofInt (N : Int)) = _
      unfold fX5_isBetterWithTwoChanged_l11
      rw [if_pos (Int32.le_refl _)])
    rw [e]; rfl) (by
    show fX5_isBetterWithTwoChanged_l2 m (49 + 8 * i) (Int32.ofInt N) (Int32.ofInt (N : Int)) = _
    unfold fX5_isBetterWithTwoChanged_l2
    rw [if_pos (Int32.le_refl _)])
  rw [show (0 : Int32) = Int32.ofInt ((0 : Nat) : Int) from rfl, e]
  rfl
theorem dP2_v {α β γ : Type} (a : α) (b : β) (f : α → β → γ) : dP2 (a, b) f = f a b := rfl
theorem fX11_agrees_ok {N S P : Nat} {le kn : Nat → Int} {il io : Nat → Bool} {sx sy : Nat → Nat → Int} {so : Nat → Nat} {co te : Nat → Int} {lt : Nat → Bool} {go : Nat → Nat → Nat} {m : dM} (hd : zDr N le kn) (hdc : zDc N le kn il io m) (hs : zSr N S sx sy) (hr : zPr N S P sx sy so co te lt go) (h : zPc N P sx sy so co te lt go m) : ∃ M, fX11_agrees m 0 = some (1, M) ∧ M.2 = m.2 ∧ ∀ a, a < 171 ∨ 391 ≤ a → M.1 a = m.1 a := by
  have hN := hd.2.1
  have hP := hr.1
  unfold fX11_agrees
  rw [dg_ok kF]
  obtain ⟨r, e, M, rfl, w1, w2⟩ := dlp_inv (f := fun q => dP2 q (fun v2 m3 => fX11_agrees_l2 v2 m3)) (Q := fun (r : dM ⊕ (dM ⊕ dM)) => ∃ M, r = .inr (.inr M) ∧ M.2 = m.2 ∧ ∀ a, a < 171 ∨ 391 ≤ a → M.1 a = m.1 a) (fun k s => s.1 = Int32.ofInt (k : Int) ∧ s.2.2 = m.2 ∧ ∀ a, a < 171 ∨ 391 ≤ a → s.2.1 a = m.1 a) P
    (fun k s hk hs' => by
      obtain ⟨v, Q⟩ := s
      obtain ⟨i1, i2, i3⟩ := hs'
      have i1 : v = Int32.ofInt (k : Int) := i1
      have i2 : Q.2 = m.2 := i2
      have i3 : ∀ a, a < 171 ∨ 391 ≤ a → Q.1 a = m.1 a := i3
      subst i1
      obtain ⟨r1, r2, r3, r4, r5, r6, r7⟩ := hr.2 k hk
      obtain ⟨n, hn⟩ := zi_nat (show 0 ≤ co k by omega)
      have q1 : zDc N le kn il io Q := hdc.to (fun a q1 q2 => i3 a (by omega))
      have q2 : zPc N P sx sy so co te lt go Q := h.to hP (fun a q1 q2 => i3 a (by omega))
      obtain ⟨M1, qq, u1, u2, u3, u4, u5⟩ := fX10_look_ok hd q1 hs hr q2 hk hn
      have q3 : zDc N le kn il io M1 := q1.to (fun a q1 q2 => u4 a (by omega))
      have q4 : zPc N P sx sy so co te lt go M1 := q2.to hP (fun a q1 q2 => u4 a (by omega))
      obtain ⟨M2, qq', v1, v2, v3⟩ := fX6_look_ok hd q3 hs hr q4 hk hn
      obtain rfl := zFirst_u u2 v2
      have q5 : zDc N le kn il io M2 := q3.to (fun a q1 q2 => v3.2.1 a (by omega))
      have q6 : zPc N P sx sy so co te lt go M2 := q4.to hP (fun a q1 q2 => v3.2.1 a (by omega))
      have same : fX2_isSameAs M2 371 390 = some 1 := by
        unfold fX2_isSameAs
        have t : ∀ j, j < 4 → M2.1 371 j = M2.1 390 j := fun j hj => by rw [v3.2.1 371 (by omega), u5 j hj, v3.2.2 j hj]
        rw [dg_ok kFau, dg_ok kRcF, if_pos (t 0 (by decide)), if_pos (t 1 (by decide)), if_pos (t 2 (by decide)), if_pos (t 3 (by decide))]
      have fr : M2.2 = m.2 ∧ ∀ a, a < 171 ∨ 391 ≤ a → M2.1 a = m.1 a := ⟨by rw [v3.1, u3, i2], fun a ha => by rw [v3.2.1 a (by omega), u4 a (by omega), i3 a ha]⟩
      refine Or.inl ⟨(Int32.ofInt ((k + 1 : Nat) : Int), M2), ?_, rfl, fr⟩
      show fX11_agrees_l2 (Int32.ofInt (k : Int)) Q = _
      unfold fX11_agrees_l2 fX8_number
      rw [dg_ok kShow, q2.1, Option.bind_some, if_neg (by rw [zi_le (by omega) (by omega) (by omega) (by omega)]; omega), fX8_numbered_ok (by omega), Option.bind_some, dg_ok (kPart (by omega)), u1, Option.bind_some]
      show dg (dkg 371 3) ((fX6_look M1 372 (49 + 8 * k) 1).bind _) = _
      rw [dg_ok kFau, v1, Option.bind_some]
      show dg (dkg 390 3) ((fX2_isSameAs M2 371 390).bind _) = _
      rw [dg_ok kRcF, same, Option.bind_some, if_neg z10]
      by_cases w : k = 0
      · subst w
        rw [if_pos (by decide)]; rfl
      · rw [if_neg (by rw [show (0 : Int32) = Int32.ofInt 0 from rfl, zi_le (by omega) (by omega) (by omega) (by omega)]; omega), zi_1]
        unfold fX5_isLeast fX1_number
        rw [dg_ok (kPart (by omega)), (q6.2 k hk).2.2.2.1, dg_ok (zB_dB _), Option.bind_some]
        cases hl : lt k
        · rw [if_pos (show zB false = 0 from rfl)]; rfl
        · rw [if_neg (show ¬ zB true = 0 by decide), dg_ok kDots, q5.1, Option.bind_some]
          unfold zGo at r6
          rw [if_pos (show 0 < k ∧ lt k = true from ⟨by omega, hl⟩)] at r6
          rw [fX5_isBetter_ok hN hs hr q6 hk r6, Option.bind_some, if_pos rfl]; rfl)
    (fun s hs' => by
      obtain ⟨v, Q⟩ := s
      obtain ⟨i1, i2, i3⟩ := hs'
      have i1 : v = Int32.ofInt (P : Int) := i1
      have i3 : ∀ a, a < 171 ∨ 391 ≤ a → Q.1 a = m.1 a := i3
      subst i1
      refine ⟨.inr (.inr Q), ?_, Q, rfl, i2, i3⟩
      show fX11_agrees_l2 (Int32.ofInt (P : Int)) Q = _
      unfold fX11_agrees_l2 fX8_number
      rw [dg_ok kShow, i3 47 (by omega), h.1, Option.bind_some, if_pos (Int32.le_refl _)]) P 0 dFl (0, m) (by omega) (by show P < 100000; omega) ⟨rfl, rfl, fun a _ => rfl⟩
  exact ⟨M, by rw [e]; rfl, w1, w2⟩
