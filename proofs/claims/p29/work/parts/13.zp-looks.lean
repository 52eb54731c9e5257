theorem zcmp_le {a b : Int} (h1 : -9223372036854775808 ≤ a) (h2 : a < 9223372036854775808) (h3 : -9223372036854775808 ≤ b) (h4 : b < 9223372036854775808) : (lg_cmp (Int64.ofInt a) (Int64.ofInt b) ≤ 0) = (a ≤ b) := by
  unfold lg_cmp
  show ((if Int64.ofInt b < Int64.ofInt a then (1 : Int32) else if Int64.ofInt a = Int64.ofInt b then 0 else -1) ≤ 0) = _
  simp only [zj_lt h3 h4 h1 h2, zj_eq h1 h2 h3 h4]
  by_cases c : b < a
  · rw [if_pos c]; exact propext ⟨fun h => absurd h (by decide), fun h => by omega⟩
  · rw [if_neg c]
    by_cases d : a = b
    · rw [if_pos d]; exact propext ⟨fun h => by omega, fun h => by decide⟩
    · rw [if_neg d]; exact propext ⟨fun h => by omega, fun h => by decide⟩
theorem zcmp_ge {a b : Int} (h1 : -9223372036854775808 ≤ a) (h2 : a < 9223372036854775808) (h3 : -9223372036854775808 ≤ b) (h4 : b < 9223372036854775808) : (0 ≤ lg_cmp (Int64.ofInt a) (Int64.ofInt b)) = (b ≤ a) := by
  unfold lg_cmp
  show (0 ≤ (if Int64.ofInt b < Int64.ofInt a then (1 : Int32) else if Int64.ofInt a = Int64.ofInt b then 0 else -1)) = _
  simp only [zj_lt h3 h4 h1 h2, zj_eq h1 h2 h3 h4]
  by_cases c : b < a
  · rw [if_pos c]; exact propext ⟨fun h => by omega, fun h => by decide⟩
  · rw [if_neg c]
    by_cases d : a = b
    · rw [if_pos d]; exact propext ⟨fun h => by omega, fun h => by decide⟩
    · rw [if_neg d]; exact propext ⟨fun h => absurd h (by decide), fun h => by omega⟩
def zSgn (s : Int) : Int := if s < 0 then -1 else if 0 < s then 1 else 0
theorem zSgn_opp (s t : Int) : (0 ≤ zSgn s * zSgn t) = (zOpp s t = false) := by
  unfold zSgn zOpp
  rcases (show s < 0 ∨ s = 0 ∨ 0 < s by omega) with a | a | a <;> rcases (show t < 0 ∨ t = 0 ∨ 0 < t by omega) with b | b | b
  · rw [if_pos a, if_pos b, decide_eq_false (by omega)]; decide
  · rw [if_pos a, if_neg (by omega), if_neg (by omega), decide_eq_false (by omega)]; decide
  · rw [if_pos a, if_neg (by omega), if_pos b, decide_eq_true (by omega)]; decide
  · rw [if_neg (by omega), if_neg (by omega), Int.zero_mul, decide_eq_false (by omega)]; decide
  · rw [if_neg (by omega), if_neg (by omega), Int.zero_mul, decide_eq_false (by omega)]; decide
  · rw [if_neg (by omega), if_neg (by omega), Int.zero_mul, decide_eq_false (by omega)]; decide
  · rw [if_neg (show ¬ s < 0 by omega), if_pos a, if_pos b, decide_eq_true (by omega)]; decide
  · rw [if_neg (show ¬ s < 0 by omega), if_pos a, if_neg (show ¬ t < 0 by omega), if_neg (show ¬ 0 < t by omega), decide_eq_false (by omega)]; decide
  · rw [if_neg (show ¬ s < 0 by omega), if_pos a, if_neg (show ¬ t < 0 by omega), if_pos b, decide_eq_false (by omega)]; decide
theorem zSgn_in (s : Int) : -1 ≤ zSgn s ∧ zSgn s ≤ 1 := by unfold zSgn; split; omega; split <;> omega
def zLst (G : Nat → Bool) (c lo hi : Nat) : Option (Nat × Nat) → Prop
  | none => ∀ y, lo ≤ y → y < hi → G y = false
  | some (c', x) => c' = c ∧ lo ≤ x ∧ x < hi ∧ G x = true ∧ ∀ y, lo ≤ y → y < x → G y = false
theorem zLst_no {G : Nat → Bool} {c lo lo' hi : Nat} {q : Option (Nat × Nat)} (h : zLst G c lo hi q) (hl : lo' ≤ lo) (hG : ∀ y, lo' ≤ y → y < lo → G y = false) : zLst G c lo' hi q := by
  match q, h with
  | none, hh =>
    intro y y1 y2
    by_cases w : y < lo
    · exact hG y y1 w
    · exact hh y (by omega) y2
  | some (c', x), hh =>
    obtain ⟨h1, h2, h3, h4, h5⟩ := hh
    refine ⟨h1, by omega, h3, h4, fun y y1 y2 => ?_⟩
    by_cases w : y < lo
    · exact hG y y1 w
    · exact h5 y (by omega) y2
theorem zLst_hi {G : Nat → Bool} {c lo hi hi' : Nat} {q : Option (Nat × Nat)} (h : zLst G c lo hi q) (hl : hi ≤ hi') (hG : ∀ y, hi ≤ y → y < hi' → G y = false) : zLst G c lo hi' q := by
  match q, h with
  | none, hh =>
    intro y y1 y2
    by_cases w : y < hi
    · exact hh y y1 w
    · exact hG y (by omega) y2
  | some (c', x), hh =>
    obtain ⟨h1, h2, h3, h4, h5⟩ := hh
    exact ⟨h1, h2, by omega, h4, h5⟩
theorem zLst_yes {G : Nat → Bool} {c y hi : Nat} {q : Option (Nat × Nat)} (hy : y < hi) (hG : G y = true) : zLst G c y hi (some (c, y)) := ⟨rfl, by omega, hy, hG, fun z z1 z2 => by omega⟩
theorem zi_m1 (a : Int) : Int32.ofInt a + (-1) = Int32.ofInt (a - 1) := by rw [show (-1 : Int32) = Int32.ofInt (-1) from rfl, zi_add]; congr 1
theorem zQ_in {F : Nat → Nat → Bool} {co : Nat} {q : Option (Nat × Nat)} (h : zFirst F co q) (hc : co ≤ 64) (k : Nat) : -1 ≤ zQ q k ∧ zQ q k ≤ 300 := by
  match q, h with
  | none, _ => exact ⟨by show (-1 : Int) ≤ -1; omega, by show (-1 : Int) ≤ 300; omega⟩
  | some (c, n), hh =>
    obtain ⟨h1, h2, h3, h4⟩ := hh
    unfold zQ
    by_cases k0 : k = 0
    · simp only [if_pos k0]; omega
    · simp only [if_neg k0]
      by_cases k1 : k = 1
      · simp only [if_pos k1]; omega
      · simp only [if_neg k1]
        by_cases k2 : k = 2
        · simp only [if_pos k2]
          split <;> omega
        · simp only [if_neg k2]
          split <;> omega
