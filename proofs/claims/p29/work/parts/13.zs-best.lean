theorem zDig_dvd {N : Nat} {h : Nat → Nat} : ∀ n : Nat, n ≤ N → ∃ k : Int, zDig N h n = 10 ^ (N - n) * k
  | 0, _ => ⟨0, by show (0 : Int) = _ * 0; rw [Int.mul_zero]⟩
  | n + 1, hn => by
    obtain ⟨k, e⟩ := zDig_dvd (N := N) (h := h) n (by omega)
    have e1 : zDig N h (n + 1) = zDig N h n + 10 ^ (N - 1 - n) * (h n : Int) := rfl
    have p : (10 : Int) ^ (N - n) = 10 * 10 ^ (N - 1 - n) := by
      rw [show N - n = (N - 1 - n) + 1 by omega, Int.pow_succ, Int.mul_comm]
    refine ⟨10 * k + h n, ?_⟩
    rw [e1, e, p, show N - (n + 1) = N - 1 - n by omega, Int.mul_add]
    congr 1
    grind
theorem zDig_inj {N : Nat} {h g : Nat → Nat} (hh : ∀ d, d < N → h d ≤ 9) (hg : ∀ d, d < N → g d ≤ 9) : ∀ n : Nat, n ≤ N → zDig N h n = zDig N g n → ∀ d, d < n → h d = g d
  | 0, _, _, d, hd => by omega
  | n + 1, hn, e, d, hd => by
    have b1 := hh n (by omega)
    have b2 := hg n (by omega)
    obtain ⟨k1, e1⟩ := zDig_dvd (N := N) (h := h) n (by omega)
    obtain ⟨k2, e2⟩ := zDig_dvd (N := N) (h := g) n (by omega)
    have f1 : zDig N h (n + 1) = zDig N h n + 10 ^ (N - 1 - n) * (h n : Int) := rfl
    have f2 : zDig N g (n + 1) = zDig N g n + 10 ^ (N - 1 - n) * (g n : Int) := rfl
    have p : (10 : Int) ^ (N - n) = 10 * 10 ^ (N - 1 - n) := by
      rw [show N - n = (N - 1 - n) + 1 by omega, Int.pow_succ, Int.mul_comm]
    have q : (0 : Int) < 10 ^ (N - 1 - n) := Int.pow_pos (by decide)
    have z : (10 : Int) ^ (N - 1 - n) * (10 * k1 + h n - (10 * k2 + g n)) = 0 := by
      rw [f1, f2, e1, e2, p] at e
      have : (10 : Int) ^ (N - 1 - n) * (10 * k1 + h n - (10 * k2 + g n)) = (10 * 10 ^ (N - 1 - n) * k1 + 10 ^ (N - 1 - n) * (h n : Int)) - (10 * 10 ^ (N - 1 - n) * k2 + 10 ^ (N - 1 - n) * (g n : Int)) := by grind
      rw [this, e, Int.sub_self]
    have z2 : 10 * k1 + (h n : Int) - (10 * k2 + g n) = 0 := by
      rcases Int.mul_eq_zero.mp z with w | w
      · omega
      · exact w
    have hgn : h n = g n := by omega
    by_cases c : d = n
    · rw [c]; exact hgn
    · refine zDig_inj hh hg n (by omega) ?_ d (by omega)
      rw [f1, f2, hgn] at e
      omega
def zWt (N : Nat) (w : Nat → Nat → Int) (d p : Nat) : Int := 10000000000 * w d p + 10 ^ (N - 1 - d) * (p : Int)
theorem zBest_of {N : Nat} {w : Nat → Nat → Int} {g : Nat → Nat} {u v : Nat → Int} (hN : N ≤ 10) (hg : zInj N g) (h1 : ∀ d p, d < N → p < N → u d + v p ≤ zWt N w d p) (h2 : ∀ d, d < N → u d + v (g d) = zWt N w d (g d)) : zBest N w g := by
  refine ⟨hg, fun h hh => ?_⟩
  have c1 : zCost N w g = zSum u N + zSum v N := by
    rw [← zSum_perm hg v, ← zSum_add]
    exact zSum_congr N (fun d hd => (h2 d hd).symm)
  have c2 : zSum u N + zSum v N ≤ zCost N w h := by
    rw [← zSum_perm hh v, ← zSum_add]
    exact zSum_le N (fun d hd => h1 d (h d) hd (hh.1 d hd))
  rcases (show zCost N w g < zCost N w h ∨ zCost N w g = zCost N w h by omega) with c | c
  · exact Or.inr c
  · refine Or.inl ?_
    rw [zCost_eq, zCost_eq] at c
    have b1 := zDig_lt (N := N) (h := g) hN (fun d hd => by have := hg.1 d hd; omega)
    have b2 := zDig_lt (N := N) (h := h) hN (fun d hd => by have := hh.1 d hd; omega)
    exact zDig_inj (fun d hd => by have := hh.1 d hd; omega) (fun d hd => by have := hg.1 d hd; omega) N (by omega) (by omega)
theorem zBest_u {N : Nat} {w : Nat → Nat → Int} {g g' : Nat → Nat} (h : zBest N w g) (h' : zBest N w g') : ∀ d, d < N → g' d = g d := by
  rcases h.2 g' h'.1 with c | c
  · exact c
  · rcases h'.2 g h.1 with c' | c'
    · exact fun d hd => (c' d hd).symm
    · omega
theorem zBest_congr {N : Nat} {w w' : Nat → Nat → Int} {g g' : Nat → Nat} (h : zBest N w g) (hw : ∀ d p, d < N → p < N → w d p = w' d p) (hg : ∀ d, d < N → g d = g' d) : zBest N w' g' := by
  have ce : ∀ f f' : Nat → Nat, (∀ d, d < N → f d < N) → (∀ d, d < N → f d = f' d) → zCost N w f = zCost N w' f' := by
    intro f f' hf hff
    refine zSum_congr N (fun d hd => ?_)
    show 10000000000 * w d (f d) + 10 ^ (N - 1 - d) * (f d : Int) = 10000000000 * w' d (f' d) + 10 ^ (N - 1 - d) * (f' d : Int)
    rw [← hff d hd, hw d (f d) hd (hf d hd)]
  refine ⟨⟨fun d hd => by rw [← hg d hd]; exact h.1.1 d hd, fun d e hd he q => h.1.2 d e hd he (by rw [hg d hd, hg e he]; exact q)⟩, fun f hf => ?_⟩
  rcases h.2 f hf with c | c
  · exact Or.inl (fun d hd => by rw [c d hd, hg d hd])
  · exact Or.inr (by rw [← ce g g' h.1.1 hg, ← ce f f hf.1 (fun d _ => rfl)]; exact c)
