theorem zBit1 {m p : Nat} (hm : m < 1024) (hp : p < 10) : (Int32.ofInt (m : Int) >>> (Int32.ofInt (p : Int) &&& 31)) &&& 1 = zB (m.testBit p) := by
  have : ∀ m : Fin 1024, ∀ p : Fin 10, (Int32.ofInt (m.val : Int) >>> (Int32.ofInt (p.val : Int) &&& 31)) &&& 1 = zB (m.val.testBit p.val) := by decide +kernel
  exact this ⟨m, hm⟩ ⟨p, hp⟩
theorem zBit2 {m p : Nat} (hm : m < 1024) (hp : p < 10) : Int32.ofInt (m : Int) ||| (1 <<< (Int32.ofInt (p : Int) &&& 31)) = Int32.ofInt ((m ||| 2 ^ p : Nat) : Int) := by
  have : ∀ m : Fin 1024, ∀ p : Fin 10, Int32.ofInt (m.val : Int) ||| (1 <<< (Int32.ofInt (p.val : Int) &&& 31)) = Int32.ofInt ((m.val ||| 2 ^ p.val : Nat) : Int) := by decide +kernel
  exact this ⟨m, hm⟩ ⟨p, hp⟩
theorem zFull {N : Nat} (h : N ≤ 10) : (1 <<< (Int32.ofInt (N : Int) &&& 31)) - 1 = Int32.ofInt ((2 ^ N - 1 : Nat) : Int) := by
  have : ∀ N : Fin 11, (1 <<< (Int32.ofInt (N.val : Int) &&& 31)) - 1 = Int32.ofInt ((2 ^ N.val - 1 : Nat) : Int) := by decide +kernel
  exact this ⟨N, by omega⟩
theorem zP2 {N : Nat} (h : N ≤ 10) : 2 ^ N ≤ 1024 := by
  have : ∀ N : Fin 11, 2 ^ N.val ≤ 1024 := by decide
  exact this ⟨N, by omega⟩
theorem zOr_lt {N m p : Nat} (hm : m < 2 ^ N) (hp : p < N) : m ||| 2 ^ p < 2 ^ N := Nat.or_lt_two_pow hm (Nat.pow_lt_pow_right (by decide) hp)
theorem zOr_bit {m p q : Nat} : (m ||| 2 ^ p).testBit q = (m.testBit q || decide (p = q)) := by
  rw [Nat.testBit_or, Nat.testBit_two_pow]
theorem zOr_gt {m p : Nat} (h : m.testBit p = false) : m < m ||| 2 ^ p := by
  rcases Nat.lt_or_eq_of_le (Nat.left_le_or (n := m) (m := 2 ^ p)) with c | c
  · exact c
  · have : (m ||| 2 ^ p).testBit p = m.testBit p := by rw [← c]
    rw [zOr_bit, h, decide_eq_true rfl] at this
    exact absurd this (by decide)
def zPcN (m : Nat) : Nat → Nat | 0 => 0 | n + 1 => zPcN m n + if m.testBit n = true then 1 else 0
theorem zPcN_le {m : Nat} : ∀ n, zPcN m n ≤ n
  | 0 => Nat.le_refl _
  | n + 1 => by have := zPcN_le (m := m) n; show zPcN m n + _ ≤ n + 1; split <;> omega
theorem zPcN_lt {m p : Nat} (h : m.testBit p = false) : ∀ n, p < n → zPcN m n < n
  | 0, hp => by omega
  | n + 1, hp => by
    have := zPcN_le (m := m) n
    show zPcN m n + _ < n + 1
    by_cases c : p = n
    · subst c; rw [if_neg (by rw [h]; decide)]; omega
    · have := zPcN_lt h n (by omega)
      split <;> omega
theorem zPcN_ex {m : Nat} : ∀ n, zPcN m n < n → ∃ p, p < n ∧ m.testBit p = false
  | 0, h => by omega
  | n + 1, h => by
    cases c : m.testBit n
    · exact ⟨n, by omega, c⟩
    · have h : zPcN m n + (if m.testBit n = true then 1 else 0) < n + 1 := h
      rw [if_pos c] at h
      obtain ⟨p, hp, e⟩ := zPcN_ex (m := m) n (by omega)
      exact ⟨p, by omega, e⟩
theorem zPcN_or {m p : Nat} (h : m.testBit p = false) : ∀ n, zPcN (m ||| 2 ^ p) n = zPcN m n + if p < n then 1 else 0
  | 0 => rfl
  | n + 1 => by
    show zPcN (m ||| 2 ^ p) n + (if (m ||| 2 ^ p).testBit n = true then 1 else 0) = zPcN m n + (if m.testBit n = true then 1 else 0) + if p < n + 1 then 1 else 0
    rw [zPcN_or h n, zOr_bit]
    by_cases c : p = n
    · subst c
      rw [h, decide_eq_true rfl, if_neg (Nat.lt_irrefl _), if_pos (by decide), if_neg (by decide), if_pos (show p < p + 1 by omega)]
    · rw [decide_eq_false c, Bool.or_false]
      by_cases c2 : p < n
      · rw [if_pos c2, if_pos (show p < n + 1 by omega)]; omega
      · rw [if_neg c2, if_neg (show ¬ p < n + 1 by omega)]; omega
theorem zPcN_hi {m N : Nat} (hm : m < 2 ^ N) : ∀ j, zPcN m (N + j) = zPcN m N
  | 0 => rfl
  | j + 1 => by
    have t : m.testBit (N + j) = false := Nat.testBit_lt_two_pow (Nat.lt_of_lt_of_le hm (Nat.pow_le_pow_right (by decide) (by omega)))
    show zPcN m (N + j) + (if m.testBit (N + j) = true then 1 else 0) = _
    rw [zPcN_hi hm j, t]; rfl
theorem zPcN_full {m N : Nat} (hm : m < 2 ^ N) (h : zPcN m N = N) : m = 2 ^ N - 1 := by
  have all : ∀ p, p < N → m.testBit p = true := by
    intro p hp
    cases c : m.testBit p
    · have := zPcN_lt c N hp; omega
    · rfl
  refine Nat.eq_of_testBit_eq (fun p => ?_)
  rw [Nat.testBit_two_pow_sub_one]
  by_cases c : p < N
  · rw [all p c, decide_eq_true c]
  · rw [decide_eq_false c]
    exact Nat.testBit_lt_two_pow (Nat.lt_of_lt_of_le hm (Nat.pow_le_pow_right (by decide) (by omega)))
theorem zPcN_fulls {N : Nat} : zPcN (2 ^ N - 1) N = N := by
  rcases Nat.lt_or_eq_of_le (zPcN_le (m := 2 ^ N - 1) N) with c | c
  · obtain ⟨p, hp, e⟩ := zPcN_ex N c
    rw [Nat.testBit_two_pow_sub_one, decide_eq_true hp] at e
    exact absurd e (by decide)
  · exact c
/-- the least of f over the places that are free -/
def zMn (ok : Nat → Bool) (f : Nat → Int) : Nat → Int | 0 => 9000000000000000000 | n + 1 => if ok n = true then (if f n < zMn ok f n then f n else zMn ok f n) else zMn ok f n
theorem zMn_le {ok : Nat → Bool} {f : Nat → Int} : ∀ {n p : Nat}, p < n → ok p = true → zMn ok f n ≤ f p
  | 0, p, h, _ => by omega
  | n + 1, p, h, ho => by
    show (if ok n = true then (if f n < zMn ok f n then f n else zMn ok f n) else zMn ok f n) ≤ f p
    by_cases c : p = n
    · subst c; rw [if_pos ho]; split <;> omega
    · have := zMn_le (f := f) (show p < n by omega) ho
      split
      · split <;> omega
      · exact this
theorem zMn_top {ok : Nat → Bool} {f : Nat → Int} : ∀ n : Nat, zMn ok f n ≤ 9000000000000000000
  | 0 => Int.le_refl _
  | n + 1 => by
    have := zMn_top (ok := ok) (f := f) n
    show (if ok n = true then (if f n < zMn ok f n then f n else zMn ok f n) else zMn ok f n) ≤ _
    split
    · split <;> omega
    · exact this
theorem zMn_ex {ok : Nat → Bool} {f : Nat → Int} : ∀ n : Nat, zMn ok f n = 9000000000000000000 ∨ ∃ p, p < n ∧ ok p = true ∧ zMn ok f n = f p
  | 0 => Or.inl rfl
  | n + 1 => by
    have e : zMn ok f (n + 1) = if ok n = true then (if f n < zMn ok f n then f n else zMn ok f n) else zMn ok f n := rfl
    rw [e]
    by_cases c : ok n = true
    · rw [if_pos c]
      by_cases c2 : f n < zMn ok f n
      · rw [if_pos c2]; exact Or.inr ⟨n, by omega, c, rfl⟩
      · rw [if_neg c2]
        rcases zMn_ex (ok := ok) (f := f) n with w | ⟨p, w1, w2, w3⟩
        · exact Or.inl w
        · exact Or.inr ⟨p, by omega, w2, w3⟩
    · rw [if_neg c]
      rcases zMn_ex (ok := ok) (f := f) n with w | ⟨p, w1, w2, w3⟩
      · exact Or.inl w
      · exact Or.inr ⟨p, by omega, w2, w3⟩
def zC (N : Nat) (w : Nat → Nat → Int) : Nat → Nat → Int | 0, _ => 0 | r + 1, m => zMn (fun p => !m.testBit p) (fun p => w (N - (r + 1)) p + zC N w r (m ||| 2 ^ p)) N
def zWb (N : Nat) (w : Nat → Nat → Int) : Prop := ∀ d p, d < N → p < N → 0 ≤ w d p ∧ w d p ≤ 5120000
theorem zC_in {N : Nat} {w : Nat → Nat → Int} (hN : N ≤ 10) (hw : zWb N w) : ∀ (r m : Nat), zPcN m N + r = N → 0 ≤ zC N w r m ∧ zC N w r m ≤ r * 5120000
  | 0, m, _ => by show (0 : Int) ≤ 0 ∧ (0 : Int) ≤ _; omega
  | r + 1, m, h => by
    have e : zC N w (r + 1) m = zMn (fun p => !m.testBit p) (fun p => w (N - (r + 1)) p + zC N w r (m ||| 2 ^ p)) N := rfl
    have nx : ∀ p, p < N → m.testBit p = false → (0 ≤ w (N - (r + 1)) p ∧ w (N - (r + 1)) p ≤ 5120000) ∧ 0 ≤ zC N w r (m ||| 2 ^ p) ∧ zC N w r (m ||| 2 ^ p) ≤ r * 5120000 := fun p hp hb => ⟨hw _ p (by omega) hp, zC_in hN hw r _ (by rw [zPcN_or hb, if_pos hp]; omega)⟩
    obtain ⟨p, hp, hb⟩ := zPcN_ex (m := m) N (by omega)
    have up := zMn_le (ok := fun p => !m.testBit p) (f := fun p => w (N - (r + 1)) p + zC N w r (m ||| 2 ^ p)) hp (by show (!m.testBit p) = true; rw [hb]; rfl)
    have up : zC N w (r + 1) m ≤ w (N - (r + 1)) p + zC N w r (m ||| 2 ^ p) := up
    have n1 := nx p hp hb
    refine ⟨?_, by omega⟩
    rcases zMn_ex (ok := fun p => !m.testBit p) (f := fun p => w (N - (r + 1)) p + zC N w r (m ||| 2 ^ p)) N with c | ⟨q, q1, q2, q3⟩
    · rw [← e] at c; omega
    · have q2 : (!m.testBit q) = true := q2
      have q2 : m.testBit q = false := by cases h : m.testBit q; rfl; rw [h] at q2; exact absurd q2 (by decide)
      rw [← e] at q3
      have n2 := nx q q1 q2
      have q3 : zC N w (r + 1) m = w (N - (r + 1)) q + zC N w r (m ||| 2 ^ q) := q3
      omega
/-- completions: the dots from N - r on go to places that are free -/
def zFr (N r m : Nat) (h : Nat → Nat) : Prop := (∀ d, N - r ≤ d → d < N → h d < N ∧ m.testBit (h d) = false) ∧ ∀ d e, N - r ≤ d → d < N → N - r ≤ e → e < N → h d = h e → d = e
def zSf (N : Nat) (w : Nat → Nat → Int) (h : Nat → Nat) (j : Nat) : Int := zSum (fun d => w d (h d)) N - zSum (fun d => w d (h d)) j
theorem zSf_s {N : Nat} {w : Nat → Nat → Int} {h : Nat → Nat} {j : Nat} : zSf N w h j = w j (h j) + zSf N w h (j + 1) := by
  have : zSum (fun d => w d (h d)) (j + 1) = zSum (fun d => w d (h d)) j + w j (h j) := rfl
  unfold zSf; omega
theorem zSf_congr {N : Nat} {w : Nat → Nat → Int} {h h' : Nat → Nat} : ∀ {j : Nat} (k : Nat), j + k = N → (∀ d, j ≤ d → d < N → h d = h' d) → zSf N w h j = zSf N w h' j
  | j, 0, e, _ => by obtain rfl : j = N := by omega
                     unfold zSf; omega
  | j, k + 1, e, q => by rw [zSf_s, zSf_s (h := h'), q j (by omega) (by omega), zSf_congr k (by omega) (fun d d1 d2 => q d (by omega) d2)]
theorem zC_A {N : Nat} {w : Nat → Nat → Int} : ∀ (r m : Nat) (h : Nat → Nat), r ≤ N → zFr N r m h → zC N w r m ≤ zSf N w h (N - r)
  | 0, m, h, _, _ => by show (0 : Int) ≤ _; rw [Nat.sub_zero]; unfold zSf; omega
  | r + 1, m, h, hr, hf => by
    obtain ⟨f1, f2⟩ := hf
    have e : zC N w (r + 1) m = zMn (fun p => !m.testBit p) (fun p => w (N - (r + 1)) p + zC N w r (m ||| 2 ^ p)) N := rfl
    obtain ⟨a1, a2⟩ := f1 (N - (r + 1)) (by omega) (by omega)
    have up := zMn_le (ok := fun p => !m.testBit p) (f := fun p => w (N - (r + 1)) p + zC N w r (m ||| 2 ^ p)) a1 (by show (!m.testBit _) = true; rw [a2]; rfl)
    have ih := zC_A (w := w) r (m ||| 2 ^ (h (N - (r + 1)))) h (by omega) ⟨fun d d1 d2 => ⟨(f1 d (by omega) d2).1, by
      rw [zOr_bit, (f1 d (by omega) d2).2, decide_eq_false]; rfl
      intro q; have := f2 _ d (by omega) (by omega) (by omega) d2 q; omega⟩, fun d e d1 d2 e1 e2 q => f2 d e (by omega) d2 (by omega) e2 q⟩
    rw [e, zSf_s, show N - (r + 1) + 1 = N - r by omega]
    have up : zMn (fun p => !m.testBit p) (fun p => w (N - (r + 1)) p + zC N w r (m ||| 2 ^ p)) N ≤ w (N - (r + 1)) (h (N - (r + 1))) + zC N w r (m ||| 2 ^ (h (N - (r + 1)))) := up
    omega
theorem zC_B {N : Nat} {w : Nat → Nat → Int} (hN : N ≤ 10) (hw : zWb N w) : ∀ (r m : Nat), zPcN m N + r = N → ∃ h, zFr N r m h ∧ zC N w r m = zSf N w h (N - r)
  | 0, m, _ => ⟨fun _ => 0, ⟨fun d d1 d2 => by omega, fun d e d1 d2 => by omega⟩, by show (0 : Int) = _; rw [Nat.sub_zero]; unfold zSf; omega⟩
  | r + 1, m, h => by
    have e : zC N w (r + 1) m = zMn (fun p => !m.testBit p) (fun p => w (N - (r + 1)) p + zC N w r (m ||| 2 ^ p)) N := rfl
    have bd := zC_in hN hw (r + 1) m h
    rcases zMn_ex (ok := fun p => !m.testBit p) (f := fun p => w (N - (r + 1)) p + zC N w r (m ||| 2 ^ p)) N with c | ⟨q, q1, q2, q3⟩
    · rw [← e] at c; omega
    · have q2 : (!m.testBit q) = true := q2
      have q2 : m.testBit q = false := by cases h : m.testBit q; rfl; rw [h] at q2; exact absurd q2 (by decide)
      have q3 : zMn (fun p => !m.testBit p) (fun p => w (N - (r + 1)) p + zC N w r (m ||| 2 ^ p)) N = w (N - (r + 1)) q + zC N w r (m ||| 2 ^ q) := q3
      obtain ⟨f, f1, f2⟩ := zC_B hN hw r (m ||| 2 ^ q) (by rw [zPcN_or q2, if_pos q1]; omega)
      have g : ∀ d, N - r ≤ d → d < N → f d < N ∧ m.testBit (f d) = false ∧ f d ≠ q := fun d d1 d2 => by
        obtain ⟨a1, a2⟩ := f1.1 d d1 d2
        rw [zOr_bit, Bool.or_eq_false_iff] at a2
        exact ⟨a1, a2.1, fun z => of_decide_eq_false a2.2 z.symm⟩
      refine ⟨fun d => if d = N - (r + 1) then q else f d, ⟨fun d d1 d2 => ?_, fun a b a1 a2 b1 b2 z => ?_⟩, ?_⟩
      · show (if d = N - (r + 1) then q else f d) < N ∧ m.testBit (if d = N - (r + 1) then q else f d) = false
        by_cases c : d = N - (r + 1)
        · rw [if_pos c]; exact ⟨q1, q2⟩
        · rw [if_neg c]; have := g d (by omega) d2; exact ⟨this.1, this.2.1⟩
      · have z : (if a = N - (r + 1) then q else f a) = (if b = N - (r + 1) then q else f b) := z
        by_cases c : a = N - (r + 1)
        · by_cases c2 : b = N - (r + 1)
          · omega
          · rw [if_pos c, if_neg c2] at z; exact absurd z.symm (g b (by omega) b2).2.2
        · by_cases c2 : b = N - (r + 1)
          · rw [if_neg c, if_pos c2] at z; exact absurd z (g a (by omega) a2).2.2
          · rw [if_neg c, if_neg c2] at z; exact f1.2 a b (by omega) a2 (by omega) b2 z
      · rw [e, q3, zSf_s, f2, show N - (r + 1) + 1 = N - r by omega]
        have : zSf N w (fun d => if d = N - (r + 1) then q else f d) (N - r) = zSf N w f (N - r) := zSf_congr r (by omega) (fun d d1 d2 => if_neg (by omega))
        rw [this]
        show _ = w (N - (r + 1)) (if N - (r + 1) = N - (r + 1) then q else _) + _
        rw [if_pos rfl]
theorem zDig_rest {N : Nat} {h : Nat → Nat} {j : Nat} (hh : ∀ d, d < N → h d ≤ 9) : ∀ k : Nat, j + k ≤ N → 0 ≤ zDig N h (j + k) - zDig N h j ∧ zDig N h (j + k) - zDig N h j ≤ 10 ^ (N - j) - 10 ^ (N - (j + k))
  | 0, _ => by rw [Nat.add_zero]; omega
  | k + 1, hn => by
    have ih := zDig_rest (j := j) hh k (by omega)
    have b := hh (j + k) (by omega)
    have e : zDig N h (j + (k + 1)) = zDig N h (j + k) + 10 ^ (N - 1 - (j + k)) * (h (j + k) : Int) := rfl
    have p : (10 : Int) ^ (N - (j + k)) = 10 * 10 ^ (N - 1 - (j + k)) := by
      rw [show N - (j + k) = (N - 1 - (j + k)) + 1 by omega, Int.pow_succ, Int.mul_comm]
    have q : (0 : Int) < 10 ^ (N - 1 - (j + k)) := Int.pow_pos (by decide)
    have r := Int.mul_le_mul_of_nonneg_left (show (h (j + k) : Int) ≤ 9 by omega) (Int.le_of_lt q)
    have s := Int.mul_nonneg (Int.le_of_lt q) (show (0 : Int) ≤ (h (j + k) : Int) by omega)
    rw [show N - (j + (k + 1)) = N - 1 - (j + k) by omega, e]
    omega
theorem zDig_lex {N : Nat} {h g : Nat → Nat} {d : Nat} (hd : d < N) (hh : ∀ c, c < N → h c ≤ 9) (hg : ∀ c, c < N → g c ≤ 9) (e : ∀ c, c < d → h c = g c) (l : h d < g d) : zDig N h N < zDig N g N := by
  have a : zDig N h d = zDig N g d := zSum_congr d (fun c hc => by show 10 ^ (N - 1 - c) * (h c : Int) = 10 ^ (N - 1 - c) * (g c : Int); rw [e c hc])
  have e1 : zDig N h (d + 1) = zDig N h d + 10 ^ (N - 1 - d) * (h d : Int) := rfl
  have e2 : zDig N g (d + 1) = zDig N g d + 10 ^ (N - 1 - d) * (g d : Int) := rfl
  have r1 := zDig_rest (N := N) (h := h) (j := d + 1) hh (N - (d + 1)) (by omega)
  have r2 := zDig_rest (N := N) (h := g) (j := d + 1) hg (N - (d + 1)) (by omega)
  rw [show d + 1 + (N - (d + 1)) = N by omega] at r1 r2
  rw [show N - (d + 1) = N - 1 - d by omega, Nat.sub_self] at r1 r2
  have q : (0 : Int) < 10 ^ (N - 1 - d) := Int.pow_pos (by decide)
  have m := Int.mul_le_mul_of_nonneg_left (show (h d : Int) + 1 ≤ g d by omega) (Int.le_of_lt q)
  rw [Int.mul_add, Int.mul_one] at m
  have one : (10 : Int) ^ 0 = 1 := rfl
  omega
/-- the places of the dots below d -/
def zMs (N : Nat) (g : Nat → Nat) (d m : Nat) : Prop := m < 2 ^ N ∧ zPcN m N = d ∧ ∀ p, m.testBit p = true ↔ ∃ e, e < d ∧ g e = p
theorem zMs_0 {N : Nat} {g : Nat → Nat} : zMs N g 0 0 := by
  refine ⟨Nat.pow_pos (by decide), ?_, fun p => ⟨fun h => ?_, fun ⟨e, he, _⟩ => by omega⟩⟩
  · have : ∀ n, zPcN 0 n = 0 := by
      intro n
      induction n with
      | zero => rfl
      | succ n ih => show zPcN 0 n + (if Nat.testBit 0 n = true then 1 else 0) = 0; rw [ih, Nat.zero_testBit]; rfl
    exact this N
  · rw [Nat.zero_testBit] at h; exact absurd h (by decide)
theorem zMs_free {N : Nat} {g : Nat → Nat} {d m e : Nat} (h : zMs N g d m) (hg : zInj N g) (hd : d ≤ e) (he : e < N) (hdN : d ≤ N) : m.testBit (g e) = false := by
  cases c : m.testBit (g e)
  · rfl
  · obtain ⟨f, hf, q⟩ := (h.2.2 (g e)).mp c
    have := hg.2 f e (by omega) he q; omega
theorem zMs_s {N : Nat} {g : Nat → Nat} {d m : Nat} (h : zMs N g d m) (hg : zInj N g) (hd : d < N) : zMs N g (d + 1) (m ||| 2 ^ g d) := by
  have fr := zMs_free h hg (Nat.le_refl d) hd (by omega)
  refine ⟨zOr_lt h.1 (hg.1 d hd), by rw [zPcN_or fr, if_pos (hg.1 d hd), h.2.1], fun p => ?_⟩
  rw [zOr_bit, Bool.or_eq_true, h.2.2 p, decide_eq_true_eq]
  constructor
  · rintro (⟨e, he, q⟩ | q)
    · exact ⟨e, by omega, q⟩
    · exact ⟨d, by omega, q⟩
  · rintro ⟨e, he, q⟩
    by_cases c : e = d
    · subst c; exact Or.inr q
    · exact Or.inl ⟨e, by omega, q⟩
theorem zSum_pre {f f' : Nat → Int} {N d : Nat} (hd : d ≤ N) (h : ∀ c, c < d → f c = f' c) : zSum f d = zSum f' d := zSum_congr d h
theorem zG_join {N : Nat} {g h : Nat → Nat} {d m : Nat} (hg : zInj N g) (hm : zMs N g d m) (hd : d ≤ N) (hf : zFr N (N - d) m h) : zInj N (fun e => if e < d then g e else h e) := by
  have hf1 : ∀ e, d ≤ e → e < N → h e < N ∧ m.testBit (h e) = false := fun e e1 e2 => hf.1 e (by omega) e2
  refine ⟨fun e he => ?_, fun a b ha hb q => ?_⟩
  · show (if e < d then g e else h e) < N
    by_cases c : e < d
    · rw [if_pos c]; exact hg.1 e he
    · rw [if_neg c]; exact (hf1 e (by omega) he).1
  · have q : (if a < d then g a else h a) = (if b < d then g b else h b) := q
    by_cases c : a < d
    · by_cases c2 : b < d
      · rw [if_pos c, if_pos c2] at q; exact hg.2 a b ha hb q
      · rw [if_pos c, if_neg c2] at q
        have t := (hm.2.2 (h b)).mpr ⟨a, c, q⟩
        rw [(hf1 b (by omega) hb).2] at t; exact absurd t (by decide)
    · by_cases c2 : b < d
      · rw [if_neg c, if_pos c2] at q
        have t := (hm.2.2 (h a)).mpr ⟨b, c2, q.symm⟩
        rw [(hf1 a (by omega) ha).2] at t; exact absurd t (by decide)
      · rw [if_neg c, if_neg c2] at q; exact hf.2 a b (by omega) ha (by omega) hb q
theorem zG_opt {N : Nat} {w : Nat → Nat → Int} {g : Nat → Nat} {d m : Nat} (hN : N ≤ 10) (hw : zWb N w) (hb : zBest N w g) (hm : zMs N g d m) (hd : d ≤ N) : zC N w (N - d) m = zSf N w g d := by
  have hg := hb.1
  have up := zC_A (w := w) (N - d) m g (by omega) ⟨fun e e1 e2 => ⟨hg.1 e e2, zMs_free hm hg (by omega) e2 hd⟩, fun a b a1 a2 b1 b2 q => hg.2 a b a2 b2 q⟩
  rw [show N - (N - d) = d by omega] at up
  obtain ⟨h, hf, e⟩ := zC_B hN hw (N - d) m (by have := hm.2.1; omega)
  rw [show N - (N - d) = d by omega] at e
  have hk := zG_join hg hm hd hf
  have pre : zSum (fun c => w c (if c < d then g c else h c)) d = zSum (fun c => w c (g c)) d := zSum_congr d (fun c hc => by show w c (if c < d then g c else h c) = w c (g c); rw [if_pos hc])
  have suf : zSf N w (fun c => if c < d then g c else h c) d = zSf N w h d := zSf_congr (N - d) (by omega) (fun c c1 c2 => if_neg (by omega))
  rcases hb.2 _ hk with c | c
  · have : zSf N w h d = zSf N w g d := zSf_congr (N - d) (by omega) (fun a a1 a2 => by
      have := c a a2
      have this : (if a < d then g a else h a) = g a := this
      rw [if_neg (by omega)] at this; exact this)
    omega
  · rw [zCost_eq, zCost_eq] at c
    have b1 := zDig_lt (N := N) (h := g) hN (fun a ha => by have := hg.1 a ha; omega)
    have b2 := zDig_lt (N := N) (h := fun c => if c < d then g c else h c) hN (fun a ha => by have t : (if a < d then g a else h a) < N := hk.1 a ha; show (if a < d then g a else h a) ≤ 9; omega)
    have c : 10000000000 * zSum (fun d => w d (g d)) N + zDig N g N < 10000000000 * zSum (fun c => w c (if c < d then g c else h c)) N + zDig N (fun c => if c < d then g c else h c) N := c
    have t : zSf N w g d ≤ zSf N w (fun c => if c < d then g c else h c) d := by
      show zSum (fun c => w c (g c)) N - zSum (fun c => w c (g c)) d ≤ zSum (fun c => w c (if c < d then g c else h c)) N - zSum (fun c => w c (if c < d then g c else h c)) d
      omega
    omega
theorem zG_no {N : Nat} {w : Nat → Nat → Int} {g : Nat → Nat} {d m p : Nat} (hN : N ≤ 10) (hw : zWb N w) (hb : zBest N w g) (hm : zMs N g d m) (hd : d < N) (hp : p < g d) (hf : m.testBit p = false) : w d p + zC N w (N - (d + 1)) (m ||| 2 ^ p) ≠ zC N w (N - d) m := by
  intro q
  have hg := hb.1
  have gd := hg.1 d hd
  rw [zG_opt hN hw hb hm (by omega)] at q
  obtain ⟨h, hf1, e⟩ := zC_B hN hw (N - (d + 1)) (m ||| 2 ^ p) (by rw [zPcN_or hf, if_pos (by omega)]; have := hm.2.1; omega)
  rw [show N - (N - (d + 1)) = d + 1 by omega] at e
  have f1 : ∀ c, d + 1 ≤ c → c < N → h c < N ∧ m.testBit (h c) = false ∧ h c ≠ p := fun c c1 c2 => by
    obtain ⟨a1, a2⟩ := hf1.1 c (by omega) c2
    rw [zOr_bit, Bool.or_eq_false_iff] at a2
    exact ⟨a1, a2.1, fun z => of_decide_eq_false a2.2 z.symm⟩
  have hk : zInj N (fun c => if c < d then g c else if c = d then p else h c) := zG_join (h := fun c => if c = d then p else h c) hg hm (by omega) ⟨fun c c1 c2 => by
    show (if c = d then p else h c) < N ∧ m.testBit (if c = d then p else h c) = false
    by_cases w : c = d
    · rw [if_pos w]; exact ⟨by omega, hf⟩
    · rw [if_neg w]; have := f1 c (by omega) c2; exact ⟨this.1, this.2.1⟩, fun a b a1 a2 b1 b2 z => by
    have z : (if a = d then p else h a) = (if b = d then p else h b) := z
    by_cases c : a = d
    · by_cases c2 : b = d
      · omega
      · rw [if_pos c, if_neg c2] at z; exact absurd z.symm (f1 b (by omega) b2).2.2
    · by_cases c2 : b = d
      · rw [if_neg c, if_pos c2] at z; exact absurd z (f1 a (by omega) a2).2.2
      · rw [if_neg c, if_neg c2] at z; exact hf1.2 a b (by omega) a2 (by omega) b2 z⟩
  have kd : ∀ c, c < d → (if c < d then g c else if c = d then p else h c) = g c := fun c hc => if_pos hc
  have kd2 : (if d < d then g d else if d = d then p else h d) = p := by rw [if_neg (by omega), if_pos rfl]
  rcases hb.2 _ hk with c | c
  · have := c d hd
    have this : (if d < d then g d else if d = d then p else h d) = g d := this
    rw [kd2] at this; omega
  · have lex := zDig_lex (N := N) (h := fun c => if c < d then g c else if c = d then p else h c) (g := g) hd (fun a ha => by have t : (if a < d then g a else if a = d then p else h a) < N := hk.1 a ha; show (if a < d then g a else if a = d then p else h a) ≤ 9; omega) (fun a ha => by have := hg.1 a ha; omega) kd (by show (if d < d then g d else if d = d then p else h d) < g d; rw [kd2]; exact hp)
    rw [zCost_eq, zCost_eq] at c
    have pre : zSum (fun c => w c (if c < d then g c else if c = d then p else h c)) d = zSum (fun c => w c (g c)) d := zSum_congr d (fun c hc => by show w c (if c < d then g c else if c = d then p else h c) = w c (g c); rw [kd c hc])
    have s1 : zSf N w (fun c => if c < d then g c else if c = d then p else h c) d = w d p + zSf N w h (d + 1) := by
      rw [zSf_s]
      show w d (if d < d then g d else if d = d then p else h d) + _ = _
      rw [kd2, zSf_congr (N - (d + 1)) (by omega) (fun c c1 c2 => by show (if c < d then g c else if c = d then p else h c) = h c; rw [if_neg (by omega), if_neg (by omega)])]
    have c : 10000000000 * zSum (fun d => w d (g d)) N + zDig N g N < 10000000000 * zSum (fun c => w c (if c < d then g c else if c = d then p else h c)) N + zDig N (fun c => if c < d then g c else if c = d then p else h c) N := c
    have s1 : zSum (fun c => w c (if c < d then g c else if c = d then p else h c)) N - zSum (fun c => w c (if c < d then g c else if c = d then p else h c)) d = w d p + zSf N w h (d + 1) := s1
    have s2 : zSf N w g d = zSum (fun c => w c (g c)) N - zSum (fun c => w c (g c)) d := rfl
    omega
