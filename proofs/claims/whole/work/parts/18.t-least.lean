/-! the reference's least ways: sets of places as bits -/
theorem zBit1 {m p : Nat} (hm : m < 1024) (hp : p < 10) : (Int32.ofInt (m : Int) >>> (Int32.ofInt (p : Int) &&& 31)) &&& 1 = zB (m.testBit p) := by
  have : ∀ m : Fin 1024, ∀ p : Fin 10, (Int32.ofInt (m.val : Int) >>> (Int32.ofInt (p.val : Int) &&& 31)) &&& 1 = zB (m.val.testBit p.val) := by decide +kernel
  exact this ⟨m, hm⟩ ⟨p, hp⟩
theorem zBit2 {m p : Nat} (hm : m < 1024) (hp : p < 10) : Int32.ofInt (m : Int) ||| (1 <<< (Int32.ofInt (p : Int) &&& 31)) = Int32.ofInt ((m ||| 2 ^ p : Nat) : Int) := by
  have : ∀ m : Fin 1024, ∀ p : Fin 10, Int32.ofInt (m.val : Int) ||| (1 <<< (Int32.ofInt (p.val : Int) &&& 31)) = Int32.ofInt ((m.val ||| 2 ^ p.val : Nat) : Int) := by decide +kernel
  exact this ⟨m, hm⟩ ⟨p, hp⟩
theorem zFull {N : Nat} (h : N ≤ 10) : (1 <<< (Int32.ofInt (N : Int) &&& 31)) - 1 = Int32.ofInt ((2 ^ N - 1 : Nat) : Int) := by
  have : ∀ N : Fin 11, (1 <<< (Int32.ofInt (N.val : Int) &&& 31)) - 1 = Int32.ofInt ((2 ^ N.val - 1 : Nat) : Int) := by decide +kernel
  exact this ⟨N, by omega⟩
theorem zP2 {N : Nat} (h : N ≤ 10) : 2 ^ N ≤ 1024 := by
  have : ∀ N : Fin 11, 2 ^ N.val ≤ 1024 := by decide
  exact this ⟨N, by omega⟩
theorem zOr_lt {N m p : Nat} (hm : m < 2 ^ N) (hp : p < N) : m ||| 2 ^ p < 2 ^ N := Nat.or_lt_two_pow hm (Nat.pow_lt_pow_right (by decide) hp)
theorem zOr_bit {m p q : Nat} : (m ||| 2 ^ p).testBit q = (m.testBit q || decide (p = q)) := by
  rw [Nat.testBit_or, Nat.testBit_two_pow]
theorem zOr_gt {m p : Nat} (h : m.testBit p = false) : m < m ||| 2 ^ p := by
  rcases Nat.lt_or_eq_of_le (Nat.left_le_or (n := m) (m := 2 ^ p)) with c | c
  · exact c
  · have : (m ||| 2 ^ p).testBit p = m.testBit p := by rw [← c]
    rw [zOr_bit, h, decide_eq_true rfl] at this
    exact absurd this (by decide)
def zPcN (m : Nat) : Nat → Nat | 0 => 0 | n + 1 => zPcN m n + if m.testBit n = true then 1 else 0
theorem zPcN_le {m : Nat} : ∀ n, zPcN m n ≤ n
  | 0 => Nat.le_refl _
  | n + 1 => by have := zPcN_le (m := m) n; show zPcN m n + _ ≤ n + 1; split <;> omega
theorem zPcN_lt {m p : Nat} (h : m.testBit p = false) : ∀ n, p < n → zPcN m n < n
  | 0, hp => by omega
  | n + 1, hp => by
    have := zPcN_le (m := m) n
    show zPcN m n + _ < n + 1
    by_cases c : p = n
    · subst c; rw [if_neg (by rw [h]; decide)]; omega
    · have := zPcN_lt h n (by omega)
      split <;> omega
theorem zPcN_ex {m : Nat} : ∀ n, zPcN m n < n → ∃ p, p < n ∧ m.testBit p = false
  | 0, h => by omega
  | n + 1, h => by
    cases c : m.testBit n
    · exact ⟨n, by omega, c⟩
    · have h : zPcN m n + (if m.testBit n = true then 1 else 0) < n + 1 := h
      rw [if_pos c] at h
      obtain ⟨p, hp, e⟩ := zPcN_ex (m := m) n (by omega)
      exact ⟨p, by omega, e⟩
theorem zPcN_or {m p : Nat} (h : m.testBit p = false) : ∀ n, zPcN (m ||| 2 ^ p) n = zPcN m n + if p < n then 1 else 0
  | 0 => rfl
  | n + 1 => by
    show zPcN (m ||| 2 ^ p) n + (if (m ||| 2 ^ p).testBit n = true then 1 else 0) = zPcN m n + (if m.testBit n = true then 1 else 0) + if p < n + 1 then 1 else 0
    rw [zPcN_or h n, zOr_bit]
    by_cases c : p = n
    · subst c
      rw [h, decide_eq_true rfl, if_neg (Nat.lt_irrefl _), if_pos (by decide), if_neg (by decide), if_pos (show p < p + 1 by omega)]
    · rw [decide_eq_false c, Bool.or_false]
      by_cases c2 : p < n
      · rw [if_pos c2, if_pos (show p < n + 1 by omega)]; omega
      · rw [if_neg c2, if_neg (show ¬ p < n + 1 by omega)]; omega
theorem zPcN_hi {m N : Nat} (hm : m < 2 ^ N) : ∀ j, zPcN m (N + j) = zPcN m N
  | 0 => rfl
  | j + 1 => by
    have t : m.testBit (N + j) = false := Nat.testBit_lt_two_pow (Nat.lt_of_lt_of_le hm (Nat.pow_le_pow_right (by decide) (by omega)))
    show zPcN m (N + j) + (if m.testBit (N + j) = true then 1 else 0) = _
    rw [zPcN_hi hm j, t]; rfl
theorem zPcN_full {m N : Nat} (hm : m < 2 ^ N) (h : zPcN m N = N) : m = 2 ^ N - 1 := by
  have all : ∀ p, p < N → m.testBit p = true := by
    intro p hp
    cases c : m.testBit p
    · have := zPcN_lt c N hp; omega
    · rfl
  refine Nat.eq_of_testBit_eq (fun p => ?_)
  rw [Nat.testBit_two_pow_sub_one]
  by_cases c : p < N
  · rw [all p c, decide_eq_true c]
  · rw [decide_eq_false c]
    exact Nat.testBit_lt_two_pow (Nat.lt_of_lt_of_le hm (Nat.pow_le_pow_right (by decide) (by omega)))
theorem zPcN_fulls {N : Nat} : zPcN (2 ^ N - 1) N = N := by
  rcases Nat.lt_or_eq_of_le (zPcN_le (m := 2 ^ N - 1) N) with c | c
  · obtain ⟨p, hp, e⟩ := zPcN_ex N c
    rw [Nat.testBit_two_pow_sub_one, decide_eq_true hp] at e
    exact absurd e (by decide)
  · exact c
/-- the least of f over the places that are free -/
def zMn (ok : Nat → Bool) (f : Nat → Int) : Nat → Int | 0 => 9000000000000000000 | n + 1 => if ok n = true then (if f n < zMn ok f n then f n else zMn ok f n) else zMn ok f n
theorem zMn_le {ok : Nat → Bool} {f : Nat → Int} : ∀ {n p : Nat}, p < n → ok p = true → zMn ok f n ≤ f p
  | 0, p, h, _ => by omega
  | n + 1, p, h, ho => by
    show (if ok n = true then (if f n < zMn ok f n then f n else zMn ok f n) else zMn ok f n) ≤ f p
    by_cases c : p = n
    · subst c; rw [if_pos ho]; split <;> omega
    · have := zMn_le (f := f) (show p < n by omega) ho
      split
      · split <;> omega
      · exact this
theorem zMn_top {ok : Nat → Bool} {f : Nat → Int} : ∀ n : Nat, zMn ok f n ≤ 9000000000000000000
  | 0 => Int.le_refl _
  | n + 1 => by
    have := zMn_top (ok := ok) (f := f) n
    show (if ok n = true then (if f n < zMn ok f n then f n else zMn ok f n) else zMn ok f n) ≤ _
    split
    · split <;> omega
    · exact this
theorem zMn_ex {ok : Nat → Bool} {f : Nat → Int} : ∀ n : Nat, zMn ok f n = 9000000000000000000 ∨ ∃ p, p < n ∧ ok p = true ∧ zMn ok f n = f p
  | 0 => Or.inl rfl
  | n + 1 => by
    have e : zMn ok f (n + 1) = if ok n = true then (if f n < zMn ok f n then f n else zMn ok f n) else zMn ok f n := rfl
    rw [e]
    by_cases c : ok n = true
    · rw [if_pos c]
      by_cases c2 : f n < zMn ok f n
      · rw [if_pos c2]; exact Or.inr ⟨n, by omega, c, rfl⟩
      · rw [if_neg c2]
        rcases zMn_ex (ok := ok) (f := f) n with w | ⟨p, w1, w2, w3⟩
        · exact Or.inl w
        · exact Or.inr ⟨p, by omega, w2, w3⟩
    · rw [if_neg c]
      rcases zMn_ex (ok := ok) (f := f) n with w | ⟨p, w1, w2, w3⟩
      · exact Or.inl w
      · exact Or.inr ⟨p, by omega, w2, w3⟩
def zC (N : Nat) (w : Nat → Nat → Int) : Nat → Nat → Int | 0, _ => 0 | r + 1, m => zMn (fun p => !m.testBit p) (fun p => w (N - (r + 1)) p + zC N w r (m ||| 2 ^ p)) N
def zWb (N : Nat) (w : Nat → Nat → Int) : Prop := ∀ d p, d < N → p < N → 0 ≤ w d p ∧ w d p ≤ 5120000
theorem zC_in {N : Nat} {w : Nat → Nat → Int} (hN : N ≤ 10) (hw : zWb N w) : ∀ (r m : Nat), zPcN m N + r = N → 0 ≤ zC N w r m ∧ zC N w r m ≤ r * 5120000
  | 0, m, _ => by show (0 : Int) ≤ 0 ∧ (0 : Int) ≤ _; omega
  | r + 1, m, h => by
    have e : zC N w (r + 1) m = zMn (fun p => !m.testBit p) (fun p => w (N - (r + 1)) p + zC N w r (m ||| 2 ^ p)) N := rfl
    have nx : ∀ p, p < N → m.testBit p = false → (0 ≤ w (N - (r + 1)) p ∧ w (N - (r + 1)) p ≤ 5120000) ∧ 0 ≤ zC N w r (m ||| 2 ^ p) ∧ zC N w r (m ||| 2 ^ p) ≤ r * 5120000 := fun p hp hb => ⟨hw _ p (by omega) hp, zC_in hN hw r _ (by rw [zPcN_or hb, if_pos hp]; omega)⟩
    obtain ⟨p, hp, hb⟩ := zPcN_ex (m := m) N (by omega)
    have up := zMn_le (ok := fun p => !m.testBit p) (f := fun p => w (N - (r + 1)) p + zC N w r (m ||| 2 ^ p)) hp (by show (!m.testBit p) = true; rw [hb]; rfl)
    have up : zC N w (r + 1) m ≤ w (N - (r + 1)) p + zC N w r (m ||| 2 ^ p) := up
    have n1 := nx p hp hb
    refine ⟨?_, by omega⟩
    rcases zMn_ex (ok := fun p => !m.testBit p) (f := fun p => w (N - (r + 1)) p + zC N w r (m ||| 2 ^ p)) N with c | ⟨q, q1, q2, q3⟩
    · rw [← e] at c; omega
    · have q2 : (!m.testBit q) = true := q2
      have q2 : m.testBit q = false := by cases h : m.testBit q; rfl; rw [h] at q2; exact absurd q2 (by decide)
      rw [← e] at q3
      have n2 := nx q q1 q2
      have q3 : zC N w (r + 1) m = w (N - (r + 1)) q + zC N w r (m ||| 2 ^ q) := q3
      omega
/-- completions: the dots from N - r on go to places that are free -/
def zFr (N r m : Nat) (h : Nat → Nat) : Prop := (∀ d, N - r ≤ d → d < N → h d < N ∧ m.testBit (h d) = false) ∧ ∀ d e, N - r ≤ d → d < N → N - r ≤ e → e < N → h d = h e → d = e
def zSf (N : Nat) (w : Nat → Nat → Int) (h : Nat → Nat) (j : Nat) : Int := zSum (fun d => w d (h d)) N - zSum (fun d => w d (h d)) j
theorem zSf_s {N : Nat} {w : Nat → Nat → Int} {h : Nat → Nat} {j : Nat} : zSf N w h j = w j (h j) + zSf N w h (j + 1) := by
  have : zSum (fun d => w d (h d)) (j + 1) = zSum (fun d => w d (h d)) j + w j (h j) := rfl
  unfold zSf; omega
theorem zSf_congr {N : Nat} {w : Nat → Nat → Int} {h h' : Nat → Nat} : ∀ {j : Nat} (k : Nat), j + k = N → (∀ d, j ≤ d → d < N → h d = h' d) → zSf N w h j = zSf N w h' j
  | j, 0, e, _ => by obtain rfl : j = N := by omega
                     unfold zSf; omega
  | j, k + 1, e, q => by rw [zSf_s, zSf_s (h := h'), q j (by omega) (by omega), zSf_congr k (by omega) (fun d d1 d2 => q d (by omega) d2)]
theorem zC_A {N : Nat} {w : Nat → Nat → Int} : ∀ (r m : Nat) (h : Nat → Nat), r ≤ N → zFr N r m h → zC N w r m ≤ zSf N w h (N - r)
  | 0, m, h, _, _ => by show (0 : Int) ≤ _; rw [Nat.sub_zero]; unfold zSf; omega
  | r + 1, m, h, hr, hf => by
    obtain ⟨f1, f2⟩ := hf
    have e : zC N w (r + 1) m = zMn (fun p => !m.testBit p) (fun p => w (N - (r + 1)) p + zC N w r (m ||| 2 ^ p)) N := rfl
    obtain ⟨a1, a2⟩ := f1 (N - (r + 1)) (by omega) (by omega)
    have up := zMn_le (ok := fun p => !m.testBit p) (f := fun p => w (N - (r + 1)) p + zC N w r (m ||| 2 ^ p)) a1 (by show (!m.testBit _) = true; rw [a2]; rfl)
    have ih := zC_A (w := w) r (m ||| 2 ^ (h (N - (r + 1)))) h (by omega) ⟨fun d d1 d2 => ⟨(f1 d (by omega) d2).1, by
      rw [zOr_bit, (f1 d (by omega) d2).2, decide_eq_false]; rfl
      intro q; have := f2 _ d (by omega) (by omega) (by omega) d2 q; omega⟩, fun d e d1 d2 e1 e2 q => f2 d e (by omega) d2 (by omega) e2 q⟩
    rw [e, zSf_s, show N - (r + 1) + 1 = N - r by omega]
    have up : zMn (fun p => !m.testBit p) (fun p => w (N - (r + 1)) p + zC N w r (m ||| 2 ^ p)) N ≤ w (N - (r + 1)) (h (N - (r + 1))) + zC N w r (m ||| 2 ^ (h (N - (r + 1)))) := up
    omega
theorem zC_B {N : Nat} {w : Nat → Nat → Int} (hN : N ≤ 10) (hw : zWb N w) : ∀ (r m : Nat), zPcN m N + r = N → ∃ h, zFr N r m h ∧ zC N w r m = zSf N w h (N - r)
  | 0, m, _ => ⟨fun _ => 0, ⟨fun d d1 d2 => by omega, fun d e d1 d2 => by omega⟩, by show (0 : Int) = _; rw [Nat.sub_zero]; unfold zSf; omega⟩
  | r + 1, m, h => by
    have e : zC N w (r + 1) m = zMn (fun p => !m.testBit p) (fun p => w (N - (r + 1)) p + zC N w r (m ||| 2 ^ p)) N := rfl
    have bd := zC_in hN hw (r + 1) m h
    rcases zMn_ex (ok := fun p => !m.testBit p) (f := fun p => w (N - (r + 1)) p + zC N w r (m ||| 2 ^ p)) N with c | ⟨q, q1, q2, q3⟩
    · rw [← e] at c; omega
    · have q2 : (!m.testBit q) = true := q2
      have q2 : m.testBit q = false := by cases h : m.testBit q; rfl; rw [h] at q2; exact absurd q2 (by decide)
      have q3 : zMn (fun p => !m.testBit p) (fun p => w (N - (r + 1)) p + zC N w r (m ||| 2 ^ p)) N = w (N - (r + 1)) q + zC N w r (m ||| 2 ^ q) := q3
      obtain ⟨f, f1, f2⟩ := zC_B hN hw r (m ||| 2 ^ q) (by rw [zPcN_or q2, if_pos q1]; omega)
      have g : ∀ d, N - r ≤ d → d < N → f d < N ∧ m.testBit (f d) = false ∧ f d ≠ q := fun d d1 d2 => by
        obtain ⟨a1, a2⟩ := f1.1 d d1 d2
        rw [zOr_bit, Bool.or_eq_false_iff] at a2
        exact ⟨a1, a2.1, fun z => of_decide_eq_false a2.2 z.symm⟩
      refine ⟨fun d => if d = N - (r + 1) then q else f d, ⟨fun d d1 d2 => ?_, fun a b a1 a2 b1 b2 z => ?_⟩, ?_⟩
      · show (if d = N - (r + 1) then q else f d) < N ∧ m.testBit (if d = N - (r + 1) then q else f d) = false
        by_cases c : d = N - (r + 1)
        · rw [if_pos c]; exact ⟨q1, q2⟩
        · rw [if_neg c]; have := g d (by omega) d2; exact ⟨this.1, this.2.1⟩
      · have z : (if a = N - (r + 1) then q else f a) = (if b = N - (r + 1) then q else f b) := z
        by_cases c : a = N - (r + 1)
        · by_cases c2 : b = N - (r + 1)
          · omega
          · rw [if_pos c, if_neg c2] at z; exact absurd z.symm (g b (by omega) b2).2.2
        · by_cases c2 : b = N - (r + 1)
          · rw [if_neg c, if_pos c2] at z; exact absurd z (g a (by omega) a2).2.2
          · rw [if_neg c, if_neg c2] at z; exact f1.2 a b (by omega) a2 (by omega) b2 z
      · rw [e, q3, zSf_s, f2, show N - (r + 1) + 1 = N - r by omega]
        have : zSf N w (fun d => if d = N - (r + 1) then q else f d) (N - r) = zSf N w f (N - r) := zSf_congr r (by omega) (fun d d1 d2 => if_neg (by omega))
        rw [this]
        show _ = w (N - (r + 1)) (if N - (r + 1) = N - (r + 1) then q else _) + _
        rw [if_pos rfl]
/-! the reference's choice is the best pairing -/
theorem zDig_rest {N : Nat} {h : Nat → Nat} {j : Nat} (hh : ∀ d, d < N → h d ≤ 9) : ∀ k : Nat, j + k ≤ N → 0 ≤ zDig N h (j + k) - zDig N h j ∧ zDig N h (j + k) - zDig N h j ≤ 10 ^ (N - j) - 10 ^ (N - (j + k))
  | 0, _ => by rw [Nat.add_zero]; omega
  | k + 1, hn => by
    have ih := zDig_rest (j := j) hh k (by omega)
    have b := hh (j + k) (by omega)
    have e : zDig N h (j + (k + 1)) = zDig N h (j + k) + 10 ^ (N - 1 - (j + k)) * (h (j + k) : Int) := rfl
    have p : (10 : Int) ^ (N - (j + k)) = 10 * 10 ^ (N - 1 - (j + k)) := by
      rw [show N - (j + k) = (N - 1 - (j + k)) + 1 by omega, Int.pow_succ, Int.mul_comm]
    have q : (0 : Int) < 10 ^ (N - 1 - (j + k)) := Int.pow_pos (by decide)
    have r := Int.mul_le_mul_of_nonneg_left (show (h (j + k) : Int) ≤ 9 by omega) (Int.le_of_lt q)
    have s := Int.mul_nonneg (Int.le_of_lt q) (show (0 : Int) ≤ (h (j + k) : Int) by omega)
    rw [show N - (j + (k + 1)) = N - 1 - (j + k) by omega, e]
    omega
theorem zDig_lex {N : Nat} {h g : Nat → Nat} {d : Nat} (hd : d < N) (hh : ∀ c, c < N → h c ≤ 9) (hg : ∀ c, c < N → g c ≤ 9) (e : ∀ c, c < d → h c = g c) (l : h d < g d) : zDig N h N < zDig N g N := by
  have a : zDig N h d = zDig N g d := zSum_congr d (fun c hc => by show 10 ^ (N - 1 - c) * (h c : Int) = 10 ^ (N - 1 - c) * (g c : Int); rw [e c hc])
  have e1 : zDig N h (d + 1) = zDig N h d + 10 ^ (N - 1 - d) * (h d : Int) := rfl
  have e2 : zDig N g (d + 1) = zDig N g d + 10 ^ (N - 1 - d) * (g d : Int) := rfl
  have r1 := zDig_rest (N := N) (h := h) (j := d + 1) hh (N - (d + 1)) (by omega)
  have r2 := zDig_rest (N := N) (h := g) (j := d + 1) hg (N - (d + 1)) (by omega)
  rw [show d + 1 + (N - (d + 1)) = N by omega] at r1 r2
  rw [show N - (d + 1) = N - 1 - d by omega, Nat.sub_self] at r1 r2
  have q : (0 : Int) < 10 ^ (N - 1 - d) := Int.pow_pos (by decide)
  have m := Int.mul_le_mul_of_nonneg_left (show (h d : Int) + 1 ≤ g d by omega) (Int.le_of_lt q)
  rw [Int.mul_add, Int.mul_one] at m
  have one : (10 : Int) ^ 0 = 1 := rfl
  omega
/-- the places of the dots below d -/
def zMs (N : Nat) (g : Nat → Nat) (d m : Nat) : Prop := m < 2 ^ N ∧ zPcN m N = d ∧ ∀ p, m.testBit p = true ↔ ∃ e, e < d ∧ g e = p
theorem zMs_0 {N : Nat} {g : Nat → Nat} : zMs N g 0 0 := by
  refine ⟨Nat.pow_pos (by decide), ?_, fun p => ⟨fun h => ?_, fun ⟨e, he, _⟩ => by omega⟩⟩
  · have : ∀ n, zPcN 0 n = 0 := by
      intro n
      induction n with
      | zero => rfl
      | succ n ih => show zPcN 0 n + (if Nat.testBit 0 n = true then 1 else 0) = 0; rw [ih, Nat.zero_testBit]; rfl
    exact this N
  · rw [Nat.zero_testBit] at h; exact absurd h (by decide)
theorem zMs_free {N : Nat} {g : Nat → Nat} {d m e : Nat} (h : zMs N g d m) (hg : zInj N g) (hd : d ≤ e) (he : e < N) (hdN : d ≤ N) : m.testBit (g e) = false := by
  cases c : m.testBit (g e)
  · rfl
  · obtain ⟨f, hf, q⟩ := (h.2.2 (g e)).mp c
    have := hg.2 f e (by omega) he q; omega
theorem zMs_s {N : Nat} {g : Nat → Nat} {d m : Nat} (h : zMs N g d m) (hg : zInj N g) (hd : d < N) : zMs N g (d + 1) (m ||| 2 ^ g d) := by
  have fr := zMs_free h hg (Nat.le_refl d) hd (by omega)
  refine ⟨zOr_lt h.1 (hg.1 d hd), by rw [zPcN_or fr, if_pos (hg.1 d hd), h.2.1], fun p => ?_⟩
  rw [zOr_bit, Bool.or_eq_true, h.2.2 p, decide_eq_true_eq]
  constructor
  · rintro (⟨e, he, q⟩ | q)
    · exact ⟨e, by omega, q⟩
    · exact ⟨d, by omega, q⟩
  · rintro ⟨e, he, q⟩
    by_cases c : e = d
    · subst c; exact Or.inr q
    · exact Or.inl ⟨e, by omega, q⟩
theorem zSum_pre {f f' : Nat → Int} {N d : Nat} (hd : d ≤ N) (h : ∀ c, c < d → f c = f' c) : zSum f d = zSum f' d := zSum_congr d h
theorem zG_join {N : Nat} {g h : Nat → Nat} {d m : Nat} (hg : zInj N g) (hm : zMs N g d m) (hd : d ≤ N) (hf : zFr N (N - d) m h) : zInj N (fun e => if e < d then g e else h e) := by
  have hf1 : ∀ e, d ≤ e → e < N → h e < N ∧ m.testBit (h e) = false := fun e e1 e2 => hf.1 e (by omega) e2
  refine ⟨fun e he => ?_, fun a b ha hb q => ?_⟩
  · show (if e < d then g e else h e) < N
    by_cases c : e < d
    · rw [if_pos c]; exact hg.1 e he
    · rw [if_neg c]; exact (hf1 e (by omega) he).1
  · have q : (if a < d then g a else h a) = (if b < d then g b else h b) := q
    by_cases c : a < d
    · by_cases c2 : b < d
      · rw [if_pos c, if_pos c2] at q; exact hg.2 a b ha hb q
      · rw [if_pos c, if_neg c2] at q
        have t := (hm.2.2 (h b)).mpr ⟨a, c, q⟩
        rw [(hf1 b (by omega) hb).2] at t; exact absurd t (by decide)
    · by_cases c2 : b < d
      · rw [if_neg c, if_pos c2] at q
        have t := (hm.2.2 (h a)).mpr ⟨b, c2, q.symm⟩
        rw [(hf1 a (by omega) ha).2] at t; exact absurd t (by decide)
      · rw [if_neg c, if_neg c2] at q; exact hf.2 a b (by omega) ha (by omega) hb q
theorem zG_opt {N : Nat} {w : Nat → Nat → Int} {g : Nat → Nat} {d m : Nat} (hN : N ≤ 10) (hw : zWb N w) (hb : zBest N w g) (hm : zMs N g d m) (hd : d ≤ N) : zC N w (N - d) m = zSf N w g d := by
  have hg := hb.1
  have up := zC_A (w := w) (N - d) m g (by omega) ⟨fun e e1 e2 => ⟨hg.1 e e2, zMs_free hm hg (by omega) e2 hd⟩, fun a b a1 a2 b1 b2 q => hg.2 a b a2 b2 q⟩
  rw [show N - (N - d) = d by omega] at up
  obtain ⟨h, hf, e⟩ := zC_B hN hw (N - d) m (by have := hm.2.1; omega)
  rw [show N - (N - d) = d by omega] at e
  have hk := zG_join hg hm hd hf
  have pre : zSum (fun c => w c (if c < d then g c else h c)) d = zSum (fun c => w c (g c)) d := zSum_congr d (fun c hc => by show w c (if c < d then g c else h c) = w c (g c); rw [if_pos hc])
  have suf : zSf N w (fun c => if c < d then g c else h c) d = zSf N w h d := zSf_congr (N - d) (by omega) (fun c c1 c2 => if_neg (by omega))
  rcases hb.2 _ hk with c | c
  · have : zSf N w h d = zSf N w g d := zSf_congr (N - d) (by omega) (fun a a1 a2 => by
      have := c a a2
      have this : (if a < d then g a else h a) = g a := this
      rw [if_neg (by omega)] at this; exact this)
    omega
  · rw [zCost_eq, zCost_eq] at c
    have b1 := zDig_lt (N := N) (h := g) hN (fun a ha => by have := hg.1 a ha; omega)
    have b2 := zDig_lt (N := N) (h := fun c => if c < d then g c else h c) hN (fun a ha => by have t : (if a < d then g a else h a) < N := hk.1 a ha; show (if a < d then g a else h a) ≤ 9; omega)
    have c : 10000000000 * zSum (fun d => w d (g d)) N + zDig N g N < 10000000000 * zSum (fun c => w c (if c < d then g c else h c)) N + zDig N (fun c => if c < d then g c else h c) N := c
    have t : zSf N w g d ≤ zSf N w (fun c => if c < d then g c else h c) d := by
      show zSum (fun c => w c (g c)) N - zSum (fun c => w c (g c)) d ≤ zSum (fun c => w c (if c < d then g c else h c)) N - zSum (fun c => w c (if c < d then g c else h c)) d
      omega
    omega
theorem zG_no {N : Nat} {w : Nat → Nat → Int} {g : Nat → Nat} {d m p : Nat} (hN : N ≤ 10) (hw : zWb N w) (hb : zBest N w g) (hm : zMs N g d m) (hd : d < N) (hp : p < g d) (hf : m.testBit p = false) : w d p + zC N w (N - (d + 1)) (m ||| 2 ^ p) ≠ zC N w (N - d) m := by
  intro q
  have hg := hb.1
  have gd := hg.1 d hd
  rw [zG_opt hN hw hb hm (by omega)] at q
  obtain ⟨h, hf1, e⟩ := zC_B hN hw (N - (d + 1)) (m ||| 2 ^ p) (by rw [zPcN_or hf, if_pos (by omega)]; have := hm.2.1; omega)
  rw [show N - (N - (d + 1)) = d + 1 by omega] at e
  have f1 : ∀ c, d + 1 ≤ c → c < N → h c < N ∧ m.testBit (h c) = false ∧ h c ≠ p := fun c c1 c2 => by
    obtain ⟨a1, a2⟩ := hf1.1 c (by omega) c2
    rw [zOr_bit, Bool.or_eq_false_iff] at a2
    exact ⟨a1, a2.1, fun z => of_decide_eq_false a2.2 z.symm⟩
  have hk : zInj N (fun c => if c < d then g c else if c = d then p else h c) := zG_join (h := fun c => if c = d then p else h c) hg hm (by omega) ⟨fun c c1 c2 => by
    show (if c = d then p else h c) < N ∧ m.testBit (if c = d then p else h c) = false
    by_cases w : c = d
    · rw [if_pos w]; exact ⟨by omega, hf⟩
    · rw [if_neg w]; have := f1 c (by omega) c2; exact ⟨this.1, this.2.1⟩, fun a b a1 a2 b1 b2 z => by
    have z : (if a = d then p else h a) = (if b = d then p else h b) := z
    by_cases c : a = d
    · by_cases c2 : b = d
      · omega
      · rw [if_pos c, if_neg c2] at z; exact absurd z.symm (f1 b (by omega) b2).2.2
    · by_cases c2 : b = d
      · rw [if_neg c, if_pos c2] at z; exact absurd z (f1 a (by omega) a2).2.2
      · rw [if_neg c, if_neg c2] at z; exact hf1.2 a b (by omega) a2 (by omega) b2 z⟩
  have kd : ∀ c, c < d → (if c < d then g c else if c = d then p else h c) = g c := fun c hc => if_pos hc
  have kd2 : (if d < d then g d else if d = d then p else h d) = p := by rw [if_neg (by omega), if_pos rfl]
  rcases hb.2 _ hk with c | c
  · have := c d hd
    have this : (if d < d then g d else if d = d then p else h d) = g d := this
    rw [kd2] at this; omega
  · have lex := zDig_lex (N := N) (h := fun c => if c < d then g c else if c = d then p else h c) (g := g) hd (fun a ha => by have t : (if a < d then g a else if a = d then p else h a) < N := hk.1 a ha; show (if a < d then g a else if a = d then p else h a) ≤ 9; omega) (fun a ha => by have := hg.1 a ha; omega) kd (by show (if d < d then g d else if d = d then p else h d) < g d; rw [kd2]; exact hp)
    rw [zCost_eq, zCost_eq] at c
    have pre : zSum (fun c => w c (if c < d then g c else if c = d then p else h c)) d = zSum (fun c => w c (g c)) d := zSum_congr d (fun c hc => by show w c (if c < d then g c else if c = d then p else h c) = w c (g c); rw [kd c hc])
    have s1 : zSf N w (fun c => if c < d then g c else if c = d then p else h c) d = w d p + zSf N w h (d + 1) := by
      rw [zSf_s]
      show w d (if d < d then g d else if d = d then p else h d) + _ = _
      rw [kd2, zSf_congr (N - (d + 1)) (by omega) (fun c c1 c2 => by show (if c < d then g c else if c = d then p else h c) = h c; rw [if_neg (by omega), if_neg (by omega)])]
    have c : 10000000000 * zSum (fun d => w d (g d)) N + zDig N g N < 10000000000 * zSum (fun c => w c (if c < d then g c else if c = d then p else h c)) N + zDig N (fun c => if c < d then g c else if c = d then p else h c) N := c
    have s1 : zSum (fun c => w c (if c < d then g c else if c = d then p else h c)) N - zSum (fun c => w c (if c < d then g c else if c = d then p else h c)) d = w d p + zSf N w h (d + 1) := s1
    have s2 : zSf N w g d = zSum (fun c => w c (g c)) N - zSum (fun c => w c (g c)) d := rfl
    omega
/-! the reference's least ways, in its memory -/
def zLw (i : Nat) (m M : dM) : Prop := (∀ a, a ≠ 455 → M.1 a = m.1 a) ∧ (∀ k, k < 10 * i ∨ 10 * i + 10 ≤ k → M.1 455 k = m.1 455 k) ∧ ∀ a, a ≠ 456 → M.2 a = m.2 a
theorem zLw.rfl' {i : Nat} {m : dM} : zLw i m m := ⟨fun a _ => rfl, fun k _ => rfl, fun a _ => rfl⟩
theorem zLw_d2 {i k : Nat} {m M : dM} {v : Int64} (h : zLw i m M) : zLw i m (d2 M 456 k v) := ⟨h.1, h.2.1, fun a ha => by rw [zd2_ne ha]; exact h.2.2 a ha⟩
theorem zLw_d1 {i k : Nat} {m M : dM} {v : Int32} (h : zLw i m M) (hk : 10 * i ≤ k ∧ k < 10 * i + 10) : zLw i m (d1 M 455 k v) := ⟨fun a ha => by rw [zd1_ne ha]; exact h.1 a ha, fun j hj => by rw [zd1_nk (by omega)]; exact h.2.1 j hj, h.2.2⟩
theorem kd456 : dL 456 = 1024 := by decide +kernel
theorem fX12_many_ok {M : dM} {N m : Nat} (hN : N ≤ 10) (hm : m < 2 ^ N) : fX12_many M (Int32.ofInt (m : Int)) = some (Int32.ofInt ((zPcN m N : Nat) : Int)) := by
  have h1024 := zP2 hN
  have e10 : zPcN m 10 = zPcN m N := by have := zPcN_hi hm (10 - N); rw [show N + (10 - N) = 10 by omega] at this; exact this
  unfold fX12_many
  have e := dlp_for (f := fun q => dP2 q (fun v2 v3 => fX12_many_l4 (Int32.ofInt (m : Int)) v2 v3)) (r := Int32.ofInt ((zPcN m N : Nat) : Int)) (fun k => (Int32.ofInt (k : Int), Int32.ofInt ((zPcN m k : Nat) : Int))) 10 0 10 dFl (by omega) (by decide) (fun k _ hk => by
    show fX12_many_l4 (Int32.ofInt (m : Int)) (Int32.ofInt (k : Int)) (Int32.ofInt ((zPcN m k : Nat) : Int)) = some (.inl (Int32.ofInt ((k + 1 : Nat) : Int), Int32.ofInt ((zPcN m k + (if m.testBit k = true then 1 else 0) : Nat) : Int)))
    unfold fX12_many_l4
    rw [if_neg (by rw [show (10 : Int32) = Int32.ofInt 10 from rfl, zi_le (by omega) (by omega) (by omega) (by omega)]; omega), zBit1 (by omega) (by omega), dlet_v, dlet_v, zi_1]
    cases m.testBit k
    · rw [show zB false = Int32.ofInt 0 from rfl, zi_add, if_neg (by decide)]; rfl
    · rw [show zB true = Int32.ofInt 1 from rfl, zi_add, if_pos rfl]; rfl) (by
    show fX12_many_l4 (Int32.ofInt (m : Int)) (Int32.ofInt ((10 : Nat) : Int)) (Int32.ofInt ((zPcN m 10 : Nat) : Int)) = _
    unfold fX12_many_l4
    rw [if_pos (by decide), e10])
  rw [show ((0 : Int32), (0 : Int32)) = (Int32.ofInt ((0 : Nat) : Int), Int32.ofInt ((zPcN m 0 : Nat) : Int)) from rfl, e]
  rfl
/-- the least sums are in the rows for the sets above n -/
def zTab (N : Nat) (w : Nat → Nat → Int) (n : Nat) (M : dM) : Prop := ∀ k, n ≤ k → k < 2 ^ N → M.2 456 k = Int64.ofInt (zC N w (N - zPcN k N) k)
theorem zTab_ok {m M : dM} {N i : Nat} {w : Nat → Nat → Int} (hN : N ≤ 10) (hi : i < 12) (hw : zWb N w) (hW : ∀ M, zLw i m M → ∀ d p, d < N → p < N → fX12_way M 444 (Int32.ofInt (i : Int)) (Int32.ofInt (d : Int)) (Int32.ofInt (p : Int)) = some (Int64.ofInt (w d p))) (h444 : m.1 444 0 = Int32.ofInt (N : Int)) {k : Nat} (hk : k < 2 ^ N - 1) (hM : zLw i m M) (ht : zTab N w (k + 1) M) : ∃ M', fX12_leastWays_l20 444 (Int32.ofInt (i : Int)) (Int32.ofInt (k : Int)) M = some (.inl (Int32.ofInt ((k : Int) - 1), M')) ∧ zLw i m M' ∧ zTab N w k M' := by
  have h1024 := zP2 hN
  have hk2 : k < 2 ^ N := by omega
  have hpc : zPcN k N < N := by
    rcases Nat.lt_or_eq_of_le (zPcN_le (m := k) N) with c | c
    · exact c
    · have := zPcN_full hk2 c; omega
  have hr : ∃ r, N - zPcN k N = r + 1 := ⟨N - zPcN k N - 1, by omega⟩
  obtain ⟨r, hr⟩ := hr
  have hdot : zPcN k N = N - (r + 1) := by omega
  unfold fX12_leastWays_l20
  rw [if_neg (by rw [show (0 : Int32) = Int32.ofInt 0 from rfl, zi_lt (by omega) (by omega) (by omega) (by omega)]; omega), fX12_many_ok hN hk2, Option.bind_some, kd456, dg_ok (dIx_nat (by omega) (by decide)), zi_cn (by omega), dlet_v]
  obtain ⟨R, e, w1, w2, w3⟩ := dlp_inv (f := fun q => dP2 q (fun v41 m42 => fX12_leastWays_l42 444 (Int32.ofInt (i : Int)) (Int32.ofInt (k : Int)) (Int32.ofInt ((zPcN k N : Nat) : Int)) v41 m42)) (Q := fun (r' : dM) => zLw i m r' ∧ (∀ j, j ≠ k → r'.2 456 j = M.2 456 j) ∧ r'.2 456 k = Int64.ofInt (zC N w (r + 1) k)) (fun p s => s.1 = Int32.ofInt (p : Int) ∧ zLw i m s.2 ∧ (∀ j, j ≠ k → s.2.2 456 j = M.2 456 j) ∧ s.2.2 456 k = Int64.ofInt (zMn (fun p => !k.testBit p) (fun p => w (N - (r + 1)) p + zC N w r (k ||| 2 ^ p)) p)) N
    (fun p s hp hs => by
      obtain ⟨v, Q⟩ := s
      obtain ⟨i1, i2, i3, i4⟩ := hs
      have i1 : v = Int32.ofInt (p : Int) := i1
      have i2 : zLw i m Q := i2
      have i3 : ∀ j, j ≠ k → Q.2 456 j = M.2 456 j := i3
      have i4 : Q.2 456 k = Int64.ofInt (zMn (fun p => !k.testBit p) (fun p => w (N - (r + 1)) p + zC N w r (k ||| 2 ^ p)) p) := i4
      subst i1
      have top := zMn_top (ok := fun p => !k.testBit p) (f := fun p => w (N - (r + 1)) p + zC N w r (k ||| 2 ^ p)) p
      have lowA : ∀ q, q < N → (!k.testBit q) = true → 0 ≤ w (N - (r + 1)) q + zC N w r (k ||| 2 ^ q) ∧ w (N - (r + 1)) q + zC N w r (k ||| 2 ^ q) ≤ 60000000 := fun q hq hb => by
        have hb : k.testBit q = false := by cases h : k.testBit q; rfl; rw [h] at hb; exact absurd hb (by decide)
        have b1 := hw (N - (r + 1)) q (by omega) hq
        have b2 := zC_in hN hw r (k ||| 2 ^ q) (by rw [zPcN_or hb, if_pos hq]; omega)
        have : (r : Int) * 5120000 ≤ 10 * 5120000 := Int.mul_le_mul_of_nonneg_right (by omega) (by decide)
        omega
      have low : 0 ≤ zMn (fun p => !k.testBit p) (fun p => w (N - (r + 1)) p + zC N w r (k ||| 2 ^ p)) p := by
        rcases zMn_ex (ok := fun p => !k.testBit p) (f := fun p => w (N - (r + 1)) p + zC N w r (k ||| 2 ^ p)) p with c | ⟨q, q1, q2, q3⟩
        · omega
        · rw [q3]; exact (lowA q (by omega) q2).1
      have mn : zMn (fun p => !k.testBit p) (fun p => w (N - (r + 1)) p + zC N w r (k ||| 2 ^ p)) (p + 1) = if (!k.testBit p) = true then (if w (N - (r + 1)) p + zC N w r (k ||| 2 ^ p) < zMn (fun p => !k.testBit p) (fun p => w (N - (r + 1)) p + zC N w r (k ||| 2 ^ p)) p then w (N - (r + 1)) p + zC N w r (k ||| 2 ^ p) else zMn (fun p => !k.testBit p) (fun p => w (N - (r + 1)) p + zC N w r (k ||| 2 ^ p)) p) else zMn (fun p => !k.testBit p) (fun p => w (N - (r + 1)) p + zC N w r (k ||| 2 ^ p)) p := rfl
      refine Or.inl ?_
      show ∃ s', fX12_leastWays_l42 444 (Int32.ofInt (i : Int)) (Int32.ofInt (k : Int)) (Int32.ofInt ((zPcN k N : Nat) : Int)) (Int32.ofInt (p : Int)) Q = _ ∧ _
      unfold fX12_leastWays_l42
      rw [i2.1 444 (by decide), h444, if_neg (by rw [zi_le (by omega) (by omega) (by omega) (by omega)]; omega), zBit1 (by omega) (by omega), kd456, zi_1]
      cases hb : k.testBit p
      · rw [if_neg (show ¬ zB false = 1 by decide), hW Q i2 _ p hpc hp, Option.bind_some, zBit2 (by omega) (by omega), dg_ok (dIx_nat (by have := zOr_lt hk2 hp; omega) (by decide)), zi_cn (by have := zOr_lt hk2 hp; omega), zi_cn (by omega), dg_ok (dIx_nat (by omega) (by decide))]
        have gt := zOr_gt hb
        have tv : Q.2 456 (k ||| 2 ^ p) = Int64.ofInt (zC N w r (k ||| 2 ^ p)) := by
          rw [i3 _ (by omega), ht _ (by omega) (zOr_lt hk2 hp), zPcN_or hb, if_pos hp]
          congr 2; omega
        have bA := lowA p hp (by rw [hb]; rfl)
        rw [tv, zj_add, dlet_v, dg_ok (dIx_nat (by omega) (by decide)), dg_ok (dIx_nat (by omega) (by decide)), i4, hdot]
        rw [hb, if_pos (show (!false) = true from rfl)] at mn
        by_cases c : w (N - (r + 1)) p + zC N w r (k ||| 2 ^ p) < zMn (fun p => !k.testBit p) (fun p => w (N - (r + 1)) p + zC N w r (k ||| 2 ^ p)) p
        · rw [if_neg (by rw [zcmp_ge (by omega) (by omega) (by omega) (by omega)]; omega), dg_ok (dIx_nat (by omega) (by decide)), dlet_v, dlet_v]
          rw [if_pos c] at mn
          exact ⟨_, rfl, rfl, zLw_d2 i2, fun j hj => by show (d2 Q 456 k _).2 456 j = _; rw [zd2_nk hj]; exact i3 j hj, by show (d2 Q 456 k _).2 456 k = _; rw [zd2_at, mn]⟩
        · rw [if_pos (by rw [zcmp_ge (by omega) (by omega) (by omega) (by omega)]; omega), dlet_v, dlet_v]
          rw [if_neg c] at mn
          exact ⟨_, rfl, rfl, zLw_d2 i2, fun j hj => by show (d2 Q 456 k _).2 456 j = _; rw [zd2_nk hj]; exact i3 j hj, by show (d2 Q 456 k _).2 456 k = _; rw [zd2_at, mn]⟩
      · rw [hb, if_neg (show ¬ (!true) = true by decide)] at mn
        rw [if_pos (show zB true = 1 from rfl), zi_cn (by omega), dg_ok (dIx_nat (by omega) (by decide)), i4, show (9000000000000000000 : Int64) = Int64.ofInt 9000000000000000000 from rfl, if_pos (by rw [zcmp_ge (by omega) (by omega) (by omega) (by omega)]; exact top), dg_ok (dIx_nat (by omega) (by decide)), dg_ok (dIx_nat (by omega) (by decide)), dlet_v, dlet_v]
        exact ⟨_, rfl, rfl, zLw_d2 i2, fun j hj => by show (d2 Q 456 k _).2 456 j = _; rw [zd2_nk hj]; exact i3 j hj, by show (d2 Q 456 k _).2 456 k = _; rw [zd2_at, mn]⟩)
    (fun s hs => by
      obtain ⟨v, Q⟩ := s
      obtain ⟨i1, i2, i3, i4⟩ := hs
      have i1 : v = Int32.ofInt (N : Int) := i1
      have i2 : zLw i m Q := i2
      subst i1
      refine ⟨Q, ?_, i2, i3, i4⟩
      show fX12_leastWays_l42 444 (Int32.ofInt (i : Int)) (Int32.ofInt (k : Int)) (Int32.ofInt ((zPcN k N : Nat) : Int)) (Int32.ofInt (N : Int)) Q = _
      unfold fX12_leastWays_l42
      rw [i2.1 444 (by decide), h444, if_pos (Int32.le_refl _)]) N 0 dFl (0, d2 M 456 k 9000000000000000000) (by omega) (by show N < 100000; omega) ⟨rfl, zLw_d2 hM, fun j hj => by show (d2 M 456 k _).2 456 j = _; rw [zd2_nk hj], by show (d2 M 456 k _).2 456 k = _; rw [zd2_at]; rfl⟩
  refine ⟨R, ?_, w1, fun j hj hj2 => ?_⟩
  · rw [e, Option.bind_some]
    show dlet _ _ = _
    rw [dlet_v, zi_m1]; rfl
  · by_cases c : j = k
    · subst c; rw [w3, hr]
    · rw [w2 j c]; exact ht j (by omega) hj2
theorem zPick {m M : dM} {N i d s : Nat} {w : Nat → Nat → Int} {g : Nat → Nat} (hN : N ≤ 10) (hw : zWb N w) (hb : zBest N w g) (hW : ∀ M, zLw i m M → ∀ d p, d < N → p < N → fX12_way M 444 (Int32.ofInt (i : Int)) (Int32.ofInt (d : Int)) (Int32.ofInt (p : Int)) = some (Int64.ofInt (w d p))) (hM : zLw i m M) (ht : zTab N w 0 M) (hd : d < N) (hs : zMs N g d s) : dlp (fun q => dP2 q (fun v92 v93 => fX12_leastWays_l156 444 (Int32.ofInt (i : Int)) (Int32.ofInt (d : Int)) (Int32.ofInt (s : Int)) M v92 v93)) dFl (Int32.ofInt ((N : Int) - 1), -1) = some (Int32.ofInt ((g d : Nat) : Int)) := by
  have h1024 := zP2 hN
  have hs2 := hs.1
  have gd := hb.1.1 d hd
  have fr := zMs_free hs hb.1 (Nat.le_refl d) hd (by omega)
  have T : ∀ p, p < N → s.testBit p = false → M.2 456 (s ||| 2 ^ p) = Int64.ofInt (zC N w (N - (d + 1)) (s ||| 2 ^ p)) ∧ (0 ≤ zC N w (N - (d + 1)) (s ||| 2 ^ p) ∧ zC N w (N - (d + 1)) (s ||| 2 ^ p) ≤ 60000000) := fun p hp hf => by
    have pc : zPcN (s ||| 2 ^ p) N = d + 1 := by rw [zPcN_or hf, if_pos hp, hs.2.1]
    refine ⟨by rw [ht _ (by omega) (zOr_lt hs2 hp), pc], ?_⟩
    have b2 := zC_in hN hw (N - (d + 1)) (s ||| 2 ^ p) (by omega)
    have : ((N - (d + 1) : Nat) : Int) * 5120000 ≤ 10 * 5120000 := Int.mul_le_mul_of_nonneg_right (by omega) (by decide)
    omega
  have T0 : M.2 456 s = Int64.ofInt (zC N w (N - d) s) := by rw [ht s (by omega) hs2, hs.2.1]
  have B0 : 0 ≤ zC N w (N - d) s ∧ zC N w (N - d) s ≤ 60000000 := by
    have b2 := zC_in hN hw (N - d) s (by have := hs.2.1; omega)
    have : ((N - d : Nat) : Int) * 5120000 ≤ 10 * 5120000 := Int.mul_le_mul_of_nonneg_right (by omega) (by decide)
    omega
  have ceq : ∀ a b : Int, -9223372036854775808 ≤ a → a < 9223372036854775808 → -9223372036854775808 ≤ b → b < 9223372036854775808 → (lg_cmp (Int64.ofInt a) (Int64.ofInt b) = 0) = (a = b) := fun a b h1 h2 h3 h4 => by
    unfold lg_cmp
    show ((if Int64.ofInt b < Int64.ofInt a then (1 : Int32) else if Int64.ofInt a = Int64.ofInt b then 0 else -1) = 0) = _
    simp only [zj_lt h3 h4 h1 h2, zj_eq h1 h2 h3 h4]
    by_cases c : b < a
    · rw [if_pos c]; exact propext ⟨fun h => absurd h (by decide), fun h => by omega⟩
    · rw [if_neg c]
      by_cases d : a = b
      · rw [if_pos d]; exact propext ⟨fun _ => d, fun _ => rfl⟩
      · rw [if_neg d]; exact propext ⟨fun h => absurd h (by decide), fun h => absurd h d⟩
  obtain ⟨r, e, hq⟩ := dlp_inv (f := fun q => dP2 q (fun v92 v93 => fX12_leastWays_l156 444 (Int32.ofInt (i : Int)) (Int32.ofInt (d : Int)) (Int32.ofInt (s : Int)) M v92 v93)) (Q := fun r => r = Int32.ofInt ((g d : Nat) : Int)) (fun k s => s.1 = Int32.ofInt ((N : Int) - 1 - k) ∧ (N - k ≤ g d → s.2 = Int32.ofInt ((g d : Nat) : Int))) N
    (fun k st hk hst => by
      obtain ⟨v, x⟩ := st
      obtain ⟨i1, i2⟩ := hst
      have i1 : v = Int32.ofInt ((N : Int) - 1 - k) := i1
      have i2 : N - k ≤ g d → x = Int32.ofInt ((g d : Nat) : Int) := i2
      have v2 : Int32.ofInt ((N : Int) - 1 - k - 1) = Int32.ofInt ((N : Int) - 1 - ((k + 1 : Nat) : Int)) := by congr 1; omega
      rw [show ((N : Int) - 1 - k) = ((N - (k + 1) : Nat) : Int) by omega] at i1 v2
      subst i1
      generalize hpp : N - (k + 1) = p at *
      have hp : p < N := by omega
      refine Or.inl ?_
      show ∃ s', fX12_leastWays_l156 444 (Int32.ofInt (i : Int)) (Int32.ofInt (d : Int)) (Int32.ofInt (s : Int)) M (Int32.ofInt (p : Int)) x = _ ∧ _
      unfold fX12_leastWays_l156
      rw [if_neg (by rw [show (0 : Int32) = Int32.ofInt 0 from rfl, zi_lt (by omega) (by omega) (by omega) (by omega)]; omega), zBit1 (by omega) (by omega), zi_m1]
      cases hb2 : s.testBit p
      · obtain ⟨t1, t2⟩ := T p hp hb2
        have bw := hw d p hd hp
        have ol := zOr_lt hs2 hp
        rw [if_pos (show zB false = 0 from rfl), hW M hM d p hd hp, Option.bind_some, zBit2 (by omega) (by omega), kd456, dg_ok (dIx_nat (by omega) (by decide)), dg_ok (dIx_nat (by omega) (by decide)), zi_cn (by omega), zi_cn (by omega), t1, T0, zj_add]
        simp only [ceq (w d p + zC N w (N - (d + 1)) (s ||| 2 ^ p)) (zC N w (N - d) s) (by omega) (by omega) (by omega) (by omega)]
        by_cases c : w d p + zC N w (N - (d + 1)) (s ||| 2 ^ p) = zC N w (N - d) s
        · rw [if_pos c, dlet_v]
          refine ⟨_, rfl, v2, fun hle => ?_⟩
          have : ¬ p < g d := fun z => zG_no hN hw hb hs hd z hb2 c
          have : p = g d := by omega
          show Int32.ofInt (p : Int) = _
          rw [this]
        · rw [if_neg c, dlet_v]
          refine ⟨_, rfl, v2, fun hle => i2 ?_⟩
          by_cases z : p = g d
          · exfalso
            apply c
            rw [z]
            have o1 := zG_opt hN hw hb hs (by omega)
            have o2 := zG_opt hN hw hb (zMs_s hs hb.1 hd) (by omega)
            rw [o1, o2, zSf_s (j := d)]
          · omega
      · rw [if_neg (show ¬ zB true = 0 by decide), dlet_v]
        refine ⟨_, rfl, v2, fun hle => i2 ?_⟩
        have : p ≠ g d := fun z => by rw [z, fr] at hb2; exact absurd hb2 (by decide)
        omega)
    (fun st hst => by
      obtain ⟨v, x⟩ := st
      obtain ⟨i1, i2⟩ := hst
      have i1 : v = Int32.ofInt ((N : Int) - 1 - N) := i1
      have i2 : N - N ≤ g d → x = Int32.ofInt ((g d : Nat) : Int) := i2
      rw [show (N : Int) - 1 - N = -1 by omega] at i1
      subst i1
      refine ⟨x, ?_, i2 (by omega)⟩
      show fX12_leastWays_l156 444 (Int32.ofInt (i : Int)) (Int32.ofInt (d : Int)) (Int32.ofInt (s : Int)) M (Int32.ofInt (-1)) x = _
      unfold fX12_leastWays_l156
      rw [if_pos (by decide)]) N 0 dFl (Int32.ofInt ((N : Int) - 1), -1) (by omega) (by show N < 100000; omega) ⟨by show Int32.ofInt _ = Int32.ofInt _; congr 1; omega, fun h => by omega⟩
  rw [e, hq]
theorem fX12_leastWays_ok {m : dM} {N i : Nat} {w : Nat → Nat → Int} {g : Nat → Nat} (hN2 : 2 ≤ N) (hN : N ≤ 10) (hi : i < 12) (hw : zWb N w) (hb : zBest N w g) (hW : ∀ M, zLw i m M → ∀ d p, d < N → p < N → fX12_way M 444 (Int32.ofInt (i : Int)) (Int32.ofInt (d : Int)) (Int32.ofInt (p : Int)) = some (Int64.ofInt (w d p))) (h444 : m.1 444 0 = Int32.ofInt (N : Int)) : ∃ M', fX12_leastWays m 444 (Int32.ofInt (i : Int)) = some M' ∧ zLw i m M' ∧ ∀ d, d < N → M'.1 455 (10 * i + d) = Int32.ofInt ((g d : Nat) : Int) := by
  have h1024 := zP2 hN
  have h4 : 4 ≤ 2 ^ N := by
    have : 2 ^ 2 ≤ 2 ^ N := Nat.pow_le_pow_right (by decide) hN2
    exact this
  unfold fX12_leastWays
  rw [dg_ok kM, h444, zFull hN, dlet_v, kd456, dg_ok (dIx_nat (by omega) (by decide)), zi_cn (by omega), dlet_v]
  have t0 : zTab N w (2 ^ N - 1) (d2 m 456 (2 ^ N - 1) 0) := fun k k1 k2 => by
    obtain rfl : k = 2 ^ N - 1 := by omega
    rw [zd2_at, zPcN_fulls, Nat.sub_self]; rfl
  obtain ⟨M1, e1, w1, w2⟩ := dlp_inv (f := fun q => dP2 q (fun v5 m6 => fX12_leastWays_l20 444 (Int32.ofInt (i : Int)) v5 m6)) (Q := fun r => zLw i m r ∧ zTab N w 0 r) (fun k s => s.1 = Int32.ofInt (((2 ^ N - 1 : Nat) : Int) - 1 - k) ∧ zLw i m s.2 ∧ zTab N w (2 ^ N - 1 - k) s.2) (2 ^ N - 1)
    (fun k s hk hs => by
      obtain ⟨v, Q⟩ := s
      obtain ⟨i1, i2, i3⟩ := hs
      have i1 : v = Int32.ofInt (((2 ^ N - 1 : Nat) : Int) - 1 - k) := i1
      have i3 : zTab N w (2 ^ N - 1 - k) Q := i3
      have v2 : Int32.ofInt (((2 ^ N - 1 : Nat) : Int) - 1 - k - 1) = Int32.ofInt (((2 ^ N - 1 : Nat) : Int) - 1 - ((k + 1 : Nat) : Int)) := by congr 1; omega
      rw [show (((2 ^ N - 1 : Nat) : Int) - 1 - k) = ((2 ^ N - 1 - (k + 1) : Nat) : Int) by omega] at i1 v2
      subst i1
      rw [show 2 ^ N - 1 - k = 2 ^ N - 1 - (k + 1) + 1 by omega] at i3
      obtain ⟨M', u1, u2, u3⟩ := zTab_ok hN hi hw hW h444 (show 2 ^ N - 1 - (k + 1) < 2 ^ N - 1 by omega) i2 i3
      exact Or.inl ⟨_, u1, v2, u2, u3⟩)
    (fun s hs => by
      obtain ⟨v, Q⟩ := s
      obtain ⟨i1, i2, i3⟩ := hs
      have i1 : v = Int32.ofInt (((2 ^ N - 1 : Nat) : Int) - 1 - ((2 ^ N - 1 : Nat) : Int)) := i1
      rw [show (((2 ^ N - 1 : Nat) : Int) - 1 - ((2 ^ N - 1 : Nat) : Int)) = -1 by omega] at i1
      subst i1
      refine ⟨Q, ?_, i2, by rw [Nat.sub_self] at i3; exact i3⟩
      show fX12_leastWays_l20 444 (Int32.ofInt (i : Int)) (Int32.ofInt (-1)) Q = _
      unfold fX12_leastWays_l20
      rw [if_pos (by decide)]) (2 ^ N - 1) 0 dFl (Int32.ofInt ((2 ^ N - 1 : Nat) : Int) - 1, d2 m 456 (2 ^ N - 1) 0) (by omega) (by show _ < 100000; omega) ⟨by show Int32.ofInt _ - 1 = _; rw [show (1 : Int32) = Int32.ofInt 1 from rfl, zi_sub]; congr 1; omega, zLw_d2 zLw.rfl', t0⟩
  rw [dlet_v, e1, Option.bind_some]
  show ∃ M', ((dlp (fun q => dP3 q (fun v69 v70 m71 => fX12_leastWays_l136 444 (Int32.ofInt (i : Int)) v69 v70 m71)) dFl (0, 0, M1)).bind _) = _ ∧ _
  obtain ⟨M2, e2, x1, x2⟩ := dlp_inv (f := fun q => dP3 q (fun v69 v70 m71 => fX12_leastWays_l136 444 (Int32.ofInt (i : Int)) v69 v70 m71)) (Q := fun (r : dM) => zLw i m r ∧ ∀ d, d < N → r.1 455 (10 * i + d) = Int32.ofInt ((g d : Nat) : Int)) (fun k s => s.1 = Int32.ofInt (k : Int) ∧ (∃ t : Nat, s.2.1 = Int32.ofInt (t : Int) ∧ zMs N g k t) ∧ zLw i m s.2.2 ∧ zTab N w 0 s.2.2 ∧ ∀ d, d < k → s.2.2.1 455 (10 * i + d) = Int32.ofInt ((g d : Nat) : Int)) N
    (fun k s hk hs => by
      obtain ⟨v, x, Q⟩ := s
      obtain ⟨i1, ⟨t, i2, i3⟩, i4, i5, i6⟩ := hs
      have i1 : v = Int32.ofInt (k : Int) := i1
      have i2 : x = Int32.ofInt (t : Int) := i2
      have i4 : zLw i m Q := i4
      have i5 : zTab N w 0 Q := i5
      have i6 : ∀ d, d < k → Q.1 455 (10 * i + d) = Int32.ofInt ((g d : Nat) : Int) := i6
      subst i1 i2
      have gk := hb.1.1 k hk
      have i3' := zMs_s i3 hb.1 hk
      refine Or.inl ⟨(Int32.ofInt ((k + 1 : Nat) : Int), Int32.ofInt ((t ||| 2 ^ g k : Nat) : Int), d1 Q 455 (10 * i + k) (Int32.ofInt ((g k : Nat) : Int))), ?_, rfl, ⟨_, rfl, i3'⟩, zLw_d1 i4 (by omega), fun a a1 a2 => i5 a a1 a2, fun d hd => ?_⟩
      · show fX12_leastWays_l136 444 (Int32.ofInt (i : Int)) (Int32.ofInt (k : Int)) (Int32.ofInt (t : Int)) Q = _
        unfold fX12_leastWays_l136
        rw [i4.1 444 (by decide), h444, if_neg (by rw [zi_le (by omega) (by omega) (by omega) (by omega)]; omega), show Int32.ofInt (N : Int) - 1 = Int32.ofInt ((N : Int) - 1) by rw [show (1 : Int32) = Int32.ofInt 1 from rfl, zi_sub], dlet_v, zPick hN hw hb hW i4 i5 hk i3, Option.bind_some]
        show dg _ _ = _
        rw [zi_10, kd455, dg_ok (dIx_nat (by omega) (by decide)), zi_cn (by omega), dlet_v, zBit2 (by have := i3.1; omega) (by omega), dlet_v, dlet_v, zi_1]; rfl
      · show (d1 Q 455 _ _).1 455 _ = _
        by_cases c : d = k
        · subst c; exact zd1_at
        · rw [zd1_nk (by omega)]; exact i6 d (by omega))
    (fun s hs => by
      obtain ⟨v, x, Q⟩ := s
      obtain ⟨i1, i2, i4, i5, i6⟩ := hs
      have i1 : v = Int32.ofInt (N : Int) := i1
      have i4 : zLw i m Q := i4
      subst i1
      refine ⟨Q, ?_, i4, i6⟩
      show fX12_leastWays_l136 444 (Int32.ofInt (i : Int)) (Int32.ofInt (N : Int)) x Q = _
      unfold fX12_leastWays_l136
      rw [i4.1 444 (by decide), h444, if_pos (Int32.le_refl _)]) N 0 dFl (0, 0, M1) (by omega) (by show N < 100000; omega) ⟨rfl, ⟨0, rfl, zMs_0⟩, w1, w2, fun d hd => by omega⟩
  exact ⟨M2, by rw [e2]; rfl, x1, x2⟩
/-! the reference finds who goes where -/
theorem zWay1 {N S : Nat} {sx sy : Nat → Nat → Int} {so : Nat → Nat} {go : Nat → Nat → Nat} {m : dM} (hN : N ≤ 10) (hs : zSr N S sx sy) (hm : zSm N S sx sy m) {i d p : Nat} (hi : i + 1 < 12) (s1 : so (i + 1) < S) (s0 : so i < S) (c1 : m.1 451 (i + 1) = Int32.ofInt (so (i + 1) : Nat)) (c0 : m.1 451 i = Int32.ofInt (so i : Nat)) (c5 : m.1 455 (10 * i + d) = Int32.ofInt (go i d : Nat)) (r7 : go i d < N) (hd : d < N) (hp : p < N) : fX12_way m 444 (Int32.ofInt ((i + 1 : Nat) : Int)) (Int32.ofInt d) (Int32.ofInt p) = some (Int64.ofInt (zW sx sy so go (i + 1) d p)) := by
  have hS := hs.1
  obtain ⟨b5, b6, b7, b8⟩ := hs.2 (so (i + 1)) s1 p hp
  obtain ⟨b1, b2, b3, b4⟩ := hs.2 (so i) s0 (go i d) r7
  have eX : fX12_endX m 444 (Int32.ofInt i) (Int32.ofInt d) = some (Int32.ofInt (sx (so i) (go i d))) := by
    unfold fX12_endX
    rw [dg_ok kM, kd451, kd455, kd449, dg_ok (dIx_nat (by omega) (by decide)), zi_10, dg_ok (dIx_nat (by omega) (by decide)), zi_cn (by omega), zi_cn (by omega), c0, c5, zi_10, dg_ok (dIx_nat (by omega) (by decide)), zi_cn (by omega), (hm.2 (so i) s0 (go i d) r7).1]
  have eY : fX12_endY m 444 (Int32.ofInt i) (Int32.ofInt d) = some (Int32.ofInt (sy (so i) (go i d))) := by
    unfold fX12_endY
    rw [dg_ok kM, kd451, kd455, kd450, dg_ok (dIx_nat (by omega) (by decide)), zi_10, dg_ok (dIx_nat (by omega) (by decide)), zi_cn (by omega), zi_cn (by omega), c0, c5, zi_10, dg_ok (dIx_nat (by omega) (by decide)), zi_cn (by omega), (hm.2 (so i) s0 (go i d) r7).2]
  have bX : fX12_beginX m 444 (Int32.ofInt ((i + 1 : Nat) : Int)) (Int32.ofInt d) = some (Int32.ofInt (sx (so i) (go i d))) := by
    unfold fX12_beginX
    rw [dg_ok kM]
    simp only [zi_nz (show i + 1 < 2147483648 by omega)]
    rw [if_neg (by omega), zi_pr, eX]; rfl
  have bY : fX12_beginY m 444 (Int32.ofInt ((i + 1 : Nat) : Int)) (Int32.ofInt d) = some (Int32.ofInt (sy (so i) (go i d))) := by
    unfold fX12_beginY
    rw [dg_ok kM]
    simp only [zi_nz (show i + 1 < 2147483648 by omega)]
    rw [if_neg (by omega), zi_pr, eY]; rfl
  unfold fX12_way fX12_square
  rw [dg_ok kM, kd451, kd449, kd450, dg_ok (dIx_nat (by omega) (by decide)), zi_cn (by omega), c1, zi_10, dg_ok (dIx_nat (by omega) (by decide)), bX, Option.bind_some, dg_ok (dIx_nat (by omega) (by decide)), dg_ok (dIx_nat (by omega) (by decide)), bY, Option.bind_some, zi_cn (by omega), (hm.2 (so (i + 1)) s1 p hp).1, (hm.2 (so (i + 1)) s1 p hp).2, Option.bind_some]
  rw [zi_sub, zi_sub, zi_j (by omega) (by omega), zi_j (by omega) (by omega), zj_mul, zj_mul, zj_add]
  rfl
theorem fX12_finds_ok {N S P : Nat} {sx sy : Nat → Nat → Int} {so : Nat → Nat} {lt : Nat → Bool} {go : Nat → Nat → Nat} {m : dM} (hN2 : 2 ≤ N) (hN : N ≤ 10) (hs : zSr N S sx sy) (hm : zSm N S sx sy m) (hP : P ≤ 12) (hn : m.1 444 0 = Int32.ofInt (N : Int)) (h8 : m.1 444 8 = Int32.ofInt (P : Int)) (h1 : ∀ i, i < P → so i < S ∧ m.1 451 i = Int32.ofInt (so i : Nat) ∧ m.1 454 i = zB (lt i)) (hgo : ∀ i, i < P → zGo N sx sy so lt go i ∧ ∀ d, d < N → go i d < N) : ∃ M, fX12_finds m 444 = some M ∧ (∀ a, a ≠ 455 → M.1 a = m.1 a) ∧ (∀ a, a ≠ 456 → M.2 a = m.2 a) ∧ ∀ i, i < P → ∀ d, d < N → M.1 455 (10 * i + d) = Int32.ofInt (go i d : Nat) := by
  unfold fX12_finds
  rw [dg_ok kM]
  obtain ⟨r, e, w1, w2, w3⟩ := dlp_inv (f := fun q => dP2 q (fun v2 m3 => fX12_finds_l2 444 v2 m3)) (Q := fun (r : dM) => (∀ a, a ≠ 455 → r.1 a = m.1 a) ∧ (∀ a, a ≠ 456 → r.2 a = m.2 a) ∧ ∀ i, i < P → ∀ d, d < N → r.1 455 (10 * i + d) = Int32.ofInt (go i d : Nat)) (fun k s => s.1 = Int32.ofInt (k : Int) ∧ (∀ a, a ≠ 455 → s.2.1 a = m.1 a) ∧ (∀ a, a ≠ 456 → s.2.2 a = m.2 a) ∧ ∀ i, i < k → ∀ d, d < N → s.2.1 455 (10 * i + d) = Int32.ofInt (go i d : Nat)) P
    (fun k s hk hs' => by
      obtain ⟨v, Q⟩ := s
      obtain ⟨i1, i2, i3, i4⟩ := hs'
      have i1 : v = Int32.ofInt (k : Int) := i1
      have i2 : ∀ a, a ≠ 455 → Q.1 a = m.1 a := i2
      have i3 : ∀ a, a ≠ 456 → Q.2 a = m.2 a := i3
      have i4 : ∀ i, i < k → ∀ d, d < N → Q.1 455 (10 * i + d) = Int32.ofInt (go i d : Nat) := i4
      subst i1
      obtain ⟨R, e, w1, w2, w3, w4⟩ := dlp_inv (f := fun q => dP2 q (fun v18 m19 => fX12_finds_l12 444 (Int32.ofInt (k : Int)) v18 m19)) (Q := fun (r : dM) => (∀ a, a ≠ 455 → r.1 a = m.1 a) ∧ (∀ a, a ≠ 456 → r.2 a = m.2 a) ∧ (∀ i, i < k → ∀ d, d < N → r.1 455 (10 * i + d) = Int32.ofInt (go i d : Nat)) ∧ ∀ d, d < N → r.1 455 (10 * k + d) = Int32.ofInt (d : Int)) (fun j s => s.1 = Int32.ofInt (j : Int) ∧ (∀ a, a ≠ 455 → s.2.1 a = m.1 a) ∧ (∀ a, a ≠ 456 → s.2.2 a = m.2 a) ∧ (∀ i, i < k → ∀ d, d < N → s.2.1 455 (10 * i + d) = Int32.ofInt (go i d : Nat)) ∧ ∀ d, d < j → s.2.1 455 (10 * k + d) = Int32.ofInt (d : Int)) N
        (fun j s hj hs' => by
          obtain ⟨v, Q⟩ := s
          obtain ⟨i1, i2, i3, i4, i5⟩ := hs'
          have i1 : v = Int32.ofInt (j : Int) := i1
          have i2 : ∀ a, a ≠ 455 → Q.1 a = m.1 a := i2
          subst i1
          refine Or.inl ⟨(Int32.ofInt ((j + 1 : Nat) : Int), d1 Q 455 (10 * k + j) (Int32.ofInt (j : Int))), ?_, rfl, fun a ha => by show (d1 Q _ _ _).1 a = _; rw [zd1_ne ha]; exact i2 a ha, i3, fun i hi d hd => ?_, fun d hd => ?_⟩
          · show fX12_finds_l12 444 (Int32.ofInt (k : Int)) (Int32.ofInt (j : Int)) Q = _
            unfold fX12_finds_l12
            rw [i2 444 (by decide), hn, if_neg (by rw [zi_le (by omega) (by omega) (by omega) (by omega)]; omega), zi_10, kd455, dg_ok (dIx_nat (by omega) (by decide)), zi_cn (by omega), dlet_v, dlet_v, zi_1]; rfl
          · show (d1 Q 455 _ _).1 455 _ = _
            rw [zd1_nk (by omega)]; exact i4 i hi d hd
          · show (d1 Q 455 _ _).1 455 _ = _
            by_cases c : d = j
            · subst c; exact zd1_at
            · rw [zd1_nk (by omega)]; exact i5 d (by omega))
        (fun s hs' => by
          obtain ⟨v, Q⟩ := s
          obtain ⟨i1, i2, i3⟩ := hs'
          have i1 : v = Int32.ofInt (N : Int) := i1
          have i2 : ∀ a, a ≠ 455 → Q.1 a = m.1 a := i2
          subst i1
          refine ⟨Q, ?_, i2, i3⟩
          show fX12_finds_l12 444 (Int32.ofInt (k : Int)) (Int32.ofInt (N : Int)) Q = _
          unfold fX12_finds_l12
          rw [i2 444 (by decide), hn, if_pos (Int32.le_refl _)]) N 0 dFl (0, Q) (by omega) (by show N < 100000; omega) ⟨rfl, i2, i3, i4, fun d hd => by omega⟩
      obtain ⟨hg, hgN⟩ := hgo k hk
      refine Or.inl ?_
      show ∃ s', fX12_finds_l2 444 (Int32.ofInt (k : Int)) Q = _ ∧ _
      unfold fX12_finds_l2
      rw [i2 444 (by decide), h8, if_neg (by rw [zi_le (by omega) (by omega) (by omega) (by omega)]; omega), e, Option.bind_some]
      show ∃ s', (if Int32.ofInt (k : Int) ≤ 0 then _ else _) = _ ∧ _
      rw [zi_1]
      have keep : (∀ d, d < N → go k d = d) → ∀ i, i < k + 1 → ∀ d, d < N → R.1 455 (10 * i + d) = Int32.ofInt (go i d : Nat) := fun hid i hi d hd => by
        by_cases c : i = k
        · subst c; rw [w4 d hd, hid d hd]
        · exact w3 i (by omega) d hd
      by_cases c0 : k = 0
      · subst c0
        unfold zGo at hg
        rw [if_neg (by omega)] at hg
        rw [if_pos (by decide), dlet_v]
        exact ⟨_, rfl, rfl, w1, w2, keep hg⟩
      · rw [if_neg (by rw [show (0 : Int32) = Int32.ofInt 0 from rfl, zi_le (by omega) (by omega) (by omega) (by omega)]; omega), show dL 454 = 12 by decide +kernel, dg_ok (dIx_nat (by omega) (by decide)), zi_cn (by omega), w1 454 (by decide), (h1 k hk).2.2]
        cases hl : lt k
        · unfold zGo at hg
          rw [if_neg (by rw [hl]; intro z; exact absurd z.2 (by decide))] at hg
          rw [if_pos (show zB false = 0 from rfl), dlet_v]
          exact ⟨_, rfl, rfl, w1, w2, keep hg⟩
        · unfold zGo at hg
          rw [if_pos (show 0 < k ∧ lt k = true from ⟨by omega, hl⟩)] at hg
          have hwb : zWb N (zW sx sy so go k) := fun d p hd hp => by
            obtain ⟨q1, q2, q3, q4⟩ := hs.2 (so k) (h1 k hk).1 p hp
            obtain ⟨b1, b2, b3, b4⟩ := hs.2 (so (k - 1)) (h1 (k - 1) (by omega)).1 (go (k - 1) d) ((hgo (k - 1) (by omega)).2 d hd)
            exact zSq_in (by omega) (by omega) (by omega) (by omega) (by show 0 ≤ sx _ _; omega) (by show sx _ _ ≤ _; omega) (by show 0 ≤ sy _ _; omega) (by show sy _ _ ≤ _; omega)
          obtain ⟨M', u1, u2, u3⟩ := fX12_leastWays_ok (m := R) (i := k) hN2 hN (by omega) hwb hg (fun M hM d p hd hp => by
            have smM : zSm N S sx sy M := hm.to (fun a q1 q2 => by rw [hM.1 a (by omega), w1 a (by omega)]) (by rw [hM.1 444 (by decide), w1 444 (by decide)])
            have c451 : M.1 451 = m.1 451 := by rw [hM.1 451 (by decide), w1 451 (by decide)]
            have := zWay1 (m := M) (so := so) (go := go) (i := k - 1) (d := d) (p := p) hN hs smM (by omega) (by rw [show k - 1 + 1 = k by omega]; exact (h1 k hk).1) (h1 (k - 1) (by omega)).1 (by rw [show k - 1 + 1 = k by omega, c451]; exact (h1 k hk).2.1) (by rw [c451]; exact (h1 (k - 1) (by omega)).2.1) (by rw [hM.2.1 _ (by omega)]; exact w3 (k - 1) (by omega) d hd) ((hgo (k - 1) (by omega)).2 d hd) hd hp
            rw [show k - 1 + 1 = k by omega] at this
            exact this) (by rw [w1 444 (by decide)]; exact hn)
          rw [if_neg (show ¬ zB true = 0 by decide), u1, Option.bind_some, dlet_v]
          refine ⟨_, rfl, rfl, fun a ha => by rw [u2.1 a ha]; exact w1 a ha, fun a ha => by rw [u2.2.2 a ha]; exact w2 a ha, fun i hi d hd => ?_⟩
          by_cases c : i = k
          · subst c; exact u3 d hd
          · show M'.1 455 _ = _
            rw [u2.2.1 _ (by omega)]; exact w3 i (by omega) d hd)
    (fun s hs' => by
      obtain ⟨v, Q⟩ := s
      obtain ⟨i1, i2, i3⟩ := hs'
      have i1 : v = Int32.ofInt (P : Int) := i1
      have i2 : ∀ a, a ≠ 455 → Q.1 a = m.1 a := i2
      subst i1
      refine ⟨Q, ?_, i2, i3⟩
      show fX12_finds_l2 444 (Int32.ofInt (P : Int)) Q = _
      unfold fX12_finds_l2
      rw [i2 444 (by decide), h8, if_pos (Int32.le_refl _)]) P 0 dFl (0, m) (by omega) (by show P < 100000; omega) ⟨rfl, fun a _ => rfl, fun a _ => rfl, fun i hi => by omega⟩
  exact ⟨r, by rw [e]; rfl, w1, w2, w3⟩
