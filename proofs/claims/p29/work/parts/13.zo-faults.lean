def zSide (x0 y0 x1 y1 p q : Int) : Int := (x1 - x0) * (q - y0) - (y1 - y0) * (p - x0)
def zOpp (s t : Int) : Bool := decide ((0 < s ∧ t < 0) ∨ (s < 0 ∧ 0 < t))
def zCrs (a0 b0 a1 b1 c0 d0 c1 d1 : Int) : Bool := zOpp (zSide a0 b0 a1 b1 c0 d0) (zSide a0 b0 a1 b1 c1 d1) && zOpp (zSide c0 d0 c1 d1 a0 b0) (zSide c0 d0 c1 d1 a1 b1)
theorem zsq0 (z : Int) : 0 ≤ z * z := by
  rcases Int.lt_or_le z 0 with q | q
  · have := Int.mul_pos_of_neg_of_neg q q; omega
  · exact Int.mul_nonneg q q
theorem zMeet {D a b ux uy wx wy zx zy : Int} (ha : 0 < a) (ha' : a < D) (hb : 0 < b) (hb' : b < D) (h1 : D * zx = a * ux - b * wx) (h2 : D * zy = a * uy - b * wy) (hu : ux * ux + uy * uy ≤ 1600) (hw : wx * wx + wy * wy ≤ 1600) : zx * zx + zy * zy ≤ 6400 := by
  have e1 : (D * D) * (zx * zx + zy * zy) = (a * ux - b * wx) * (a * ux - b * wx) + (a * uy - b * wy) * (a * uy - b * wy) := by rw [← h1, ← h2]; grind
  have e2 : (a + b) * (a * (ux * ux + uy * uy) + b * (wx * wx + wy * wy)) - ((a * ux - b * wx) * (a * ux - b * wx) + (a * uy - b * wy) * (a * uy - b * wy)) = (a * b) * ((ux + wx) * (ux + wx) + (uy + wy) * (uy + wy)) := by grind
  have n1 : 0 ≤ (a * b) * ((ux + wx) * (ux + wx) + (uy + wy) * (uy + wy)) := Int.mul_nonneg (Int.mul_nonneg (by omega) (by omega)) (by have := zsq0 (ux + wx); have := zsq0 (uy + wy); omega)
  have n2 : a * (ux * ux + uy * uy) ≤ a * 1600 := Int.mul_le_mul_of_nonneg_left hu (by omega)
  have n3 : b * (wx * wx + wy * wy) ≤ b * 1600 := Int.mul_le_mul_of_nonneg_left hw (by omega)
  have n4 : (a + b) * (a * (ux * ux + uy * uy) + b * (wx * wx + wy * wy)) ≤ (a + b) * ((a + b) * 1600) := Int.mul_le_mul_of_nonneg_left (by omega) (by omega)
  have n5 : (a + b) * (a + b) ≤ (2 * D) * (2 * D) := Int.mul_self_le_mul_self (by omega) (by omega)
  have e3 : (a + b) * ((a + b) * 1600) = 1600 * ((a + b) * (a + b)) := by grind
  have e4 : (2 * D) * (2 * D) = 4 * (D * D) := by grind
  have dd : 0 < D * D := Int.mul_pos (by omega) (by omega)
  rcases Int.lt_or_le 6400 (zx * zx + zy * zy) with q | q
  · have := Int.mul_le_mul_of_nonneg_left (show 6401 ≤ zx * zx + zy * zy by omega) (show 0 ≤ D * D by omega)
    omega
  · exact q
theorem zCrs_near {a0 b0 a1 b1 c0 d0 c1 d1 : Int} (h : zCrs a0 b0 a1 b1 c0 d0 c1 d1 = true) (hu : zSq a1 b1 a0 b0 ≤ 1600) (hw : zSq c1 d1 c0 d0 ≤ 1600) : zSq a1 b1 c1 d1 ≤ 6400 := by
  unfold zCrs at h
  rw [Bool.and_eq_true] at h
  obtain ⟨h1, h2⟩ := h
  have h1 := of_decide_eq_true h1
  have h2 := of_decide_eq_true h2
  have eD : zSide a0 b0 a1 b1 c1 d1 - zSide a0 b0 a1 b1 c0 d0 = (a1 - a0) * (d1 - d0) - (b1 - b0) * (c1 - c0) := by unfold zSide; grind
  have eD2 : zSide c0 d0 c1 d1 a0 b0 - zSide c0 d0 c1 d1 a1 b1 = (a1 - a0) * (d1 - d0) - (b1 - b0) * (c1 - c0) := by unfold zSide; grind
  have x1 : ((a1 - a0) * (d1 - d0) - (b1 - b0) * (c1 - c0)) * (a1 - c1) = (-zSide c0 d0 c1 d1 a1 b1) * (a1 - a0) - (zSide a0 b0 a1 b1 c1 d1) * (c1 - c0) := by unfold zSide; grind
  have x2 : ((a1 - a0) * (d1 - d0) - (b1 - b0) * (c1 - c0)) * (b1 - d1) = (-zSide c0 d0 c1 d1 a1 b1) * (b1 - b0) - (zSide a0 b0 a1 b1 c1 d1) * (d1 - d0) := by unfold zSide; grind
  unfold zSq at *
  generalize (a1 - a0) * (d1 - d0) - (b1 - b0) * (c1 - c0) = D at *
  generalize zSide a0 b0 a1 b1 c1 d1 = q at *
  generalize zSide a0 b0 a1 b1 c0 d0 = q0 at *
  generalize zSide c0 d0 c1 d1 a1 b1 = p at *
  generalize zSide c0 d0 c1 d1 a0 b0 = p0 at *
  rcases Int.lt_or_le 0 D with s | s
  · exact zMeet (D := D) (a := -p) (b := q) (by omega) (by omega) (by omega) (by omega) x1 x2 hu hw
  · refine zMeet (D := -D) (a := p) (b := -q) (by omega) (by omega) (by omega) (by omega) ?_ ?_ hu hw
    · rw [Int.neg_mul, x1, Int.neg_mul, Int.neg_mul]; omega
    · rw [Int.neg_mul, x2, Int.neg_mul, Int.neg_mul]; omega
/-- the fault number n (a step, two near, two crossing) in the count c -/
def zFlt (N : Nat) (mar : Nat → Bool) (mo : Nat → Int) (x y : Nat → Nat → Int) (c n : Nat) : Bool :=
  if n < 100 then decide (n < N) && mar n && decide (mo n < zSq (x c n) (y c n) (x (c - 1) n) (y (c - 1) n))
  else decide (n % 100 / 10 < n % 10 ∧ n % 10 < N) && mar (n % 100 / 10) && mar (n % 10) && (if n < 200 then decide (zSq (x c (n % 100 / 10)) (y c (n % 100 / 10)) (x c (n % 10)) (y c (n % 10)) < 100) else zCrs (x (c - 1) (n % 100 / 10)) (y (c - 1) (n % 100 / 10)) (x c (n % 100 / 10)) (y c (n % 100 / 10)) (x (c - 1) (n % 10)) (y (c - 1) (n % 10)) (x c (n % 10)) (y c (n % 10)))
theorem zFlt_step {N : Nat} {mar : Nat → Bool} {mo : Nat → Int} {x y : Nat → Nat → Int} {c d : Nat} (hd : d < 100) : zFlt N mar mo x y c d = (decide (d < N) && mar d && decide (mo d < zSq (x c d) (y c d) (x (c - 1) d) (y (c - 1) d))) := by
  unfold zFlt; rw [if_pos hd]
theorem zFlt_near {N : Nat} {mar : Nat → Bool} {mo : Nat → Int} {x y : Nat → Nat → Int} {c d e : Nat} (hd : d < 10) (he : e < 10) : zFlt N mar mo x y c (100 + 10 * d + e) = (decide (d < e ∧ e < N) && mar d && mar e && decide (zSq (x c d) (y c d) (x c e) (y c e) < 100)) := by
  unfold zFlt; rw [if_neg (by omega), if_pos (by omega), show (100 + 10 * d + e) % 100 / 10 = d by omega, show (100 + 10 * d + e) % 10 = e by omega]
theorem zFlt_cross {N : Nat} {mar : Nat → Bool} {mo : Nat → Int} {x y : Nat → Nat → Int} {c d e : Nat} (hd : d < 10) (he : e < 10) : zFlt N mar mo x y c (200 + 10 * d + e) = (decide (d < e ∧ e < N) && mar d && mar e && zCrs (x (c - 1) d) (y (c - 1) d) (x c d) (y c d) (x (c - 1) e) (y (c - 1) e) (x c e) (y c e)) := by
  unfold zFlt; rw [if_neg (by omega), if_neg (by omega), show (200 + 10 * d + e) % 100 / 10 = d by omega, show (200 + 10 * d + e) % 10 = e by omega]
/-- the first fault: by its count, then by its number -/
def zFirst (F : Nat → Nat → Bool) (co : Nat) : Option (Nat × Nat) → Prop
  | none => ∀ c, 1 ≤ c → c ≤ co → ∀ n, n < 300 → F c n = false
  | some (c, n) => 1 ≤ c ∧ c ≤ co ∧ n < 300 ∧ F c n = true ∧ (∀ c', 1 ≤ c' → c' < c → ∀ n', n' < 300 → F c' n' = false) ∧ ∀ n', n' < n → F c n' = false
theorem zFirst_u {F : Nat → Nat → Bool} {co : Nat} {q q' : Option (Nat × Nat)} (h : zFirst F co q) (h' : zFirst F co q') : q = q' := by
  match q, q', h, h' with
  | none, none, _, _ => rfl
  | none, some (c, n), h, h' => have := h c h'.1 h'.2.1 n h'.2.2.1; rw [h'.2.2.2.1] at this; exact absurd this (by decide)
  | some (c, n), none, h', h => have := h c h'.1 h'.2.1 n h'.2.2.1; rw [h'.2.2.2.1] at this; exact absurd this (by decide)
  | some (c, n), some (c', n'), h, h' =>
    have e1 : c = c' := by
      rcases (show c < c' ∨ c = c' ∨ c' < c by omega) with w | w | w
      · have := h'.2.2.2.2.1 c h.1 w n h.2.2.1; rw [h.2.2.2.1] at this; exact absurd this (by decide)
      · exact w
      · have := h.2.2.2.2.1 c' h'.1 w n' h'.2.2.1; rw [h'.2.2.2.1] at this; exact absurd this (by decide)
    subst e1
    have e2 : n = n' := by
      rcases (show n < n' ∨ n = n' ∨ n' < n by omega) with w | w | w
      · have := h'.2.2.2.2.2 n w; rw [h.2.2.2.1] at this; exact absurd this (by decide)
      · exact w
      · have := h.2.2.2.2.2 n' w; rw [h'.2.2.2.1] at this; exact absurd this (by decide)
    rw [e2]
/-- what is said of it -/
def zQ : Option (Nat × Nat) → Nat → Int
  | none, _ => -1
  | some (c, n), k => if k = 0 then c else if k = 1 then (n / 100 : Nat) else if k = 2 then (if n < 100 then (n : Int) else (n % 100 / 10 : Nat)) else (if n < 100 then -1 else (n % 10 : Nat))
/-- the class's search, once the checks below n are done: it goes on in the counts below E -/
def zPre (F : Nat → Nat → Bool) (co n E : Nat) : Option (Nat × Nat) → Prop
  | none => E = co + 1 ∧ ∀ c, 1 ≤ c → c ≤ co → ∀ y, y < n → F c y = false
  | some (c, x) => E = c ∧ 1 ≤ c ∧ c ≤ co ∧ x < n ∧ F c x = true ∧ (∀ c', 1 ≤ c' → c' < c → ∀ y, y < n → F c' y = false) ∧ ∀ y, y < x → F c y = false
theorem zPre_E {F : Nat → Nat → Bool} {co n E : Nat} {q : Option (Nat × Nat)} (h : zPre F co n E q) : 1 ≤ E ∧ E ≤ co + 1 ∧ ∀ c, 1 ≤ c → c < E → ∀ y, y < n → F c y = false := by
  match q, h with
  | none, hh => obtain ⟨e, h'⟩ := hh; exact ⟨by omega, by omega, fun c h1 h2 => h' c h1 (by omega)⟩
  | some (c, x), hh => obtain ⟨e, h1, h2, h3, h4, h5, h6⟩ := hh; exact ⟨by omega, by omega, fun c' w1 w2 => h5 c' w1 (by omega)⟩
theorem zPre_end {F : Nat → Nat → Bool} {co E : Nat} {q : Option (Nat × Nat)} (h : zPre F co 300 E q) : zFirst F co q := by
  match q, h with
  | none, h => exact h.2
  | some (c, x), hh => obtain ⟨e, h1, h2, h3, h4, h5, h6⟩ := hh; exact ⟨h1, h2, h3, h4, h5, h6⟩
/-- a check that finds nothing -/
theorem zPre_no {F : Nat → Nat → Bool} {co n n' E : Nat} {q : Option (Nat × Nat)} (h : zPre F co n E q) (hn : n ≤ n') (hF : ∀ c, 1 ≤ c → c < E → ∀ y, n ≤ y → y < n' → F c y = false) : zPre F co n' E q := by
  match q, h with
  | none, hh =>
    obtain ⟨e, h'⟩ := hh
    refine ⟨e, fun c h1 h2 y hy => ?_⟩
    by_cases w : y < n
    · exact h' c h1 h2 y w
    · exact hF c h1 (by omega) y (by omega) hy
  | some (c, x), hh =>
    obtain ⟨e, h1, h2, h3, h4, h5, h6⟩ := hh
    refine ⟨e, h1, h2, by omega, h4, fun c' w1 w2 y hy => ?_, h6⟩
    by_cases w : y < n
    · exact h5 c' w1 w2 y w
    · exact hF c' w1 (by omega) y (by omega) hy
/-- a check that finds one -/
theorem zPre_yes {F : Nat → Nat → Bool} {co n E c : Nat} {q : Option (Nat × Nat)} (h : zPre F co n E q) (h1 : 1 ≤ c) (h2 : c < E) (h3 : F c n = true) (h4 : ∀ c', 1 ≤ c' → c' < c → F c' n = false) : zPre F co (n + 1) c (some (c, n)) := by
  obtain ⟨e1, e2, e3⟩ := zPre_E h
  refine ⟨rfl, h1, by omega, by omega, h3, fun c' w1 w2 y hy => ?_, fun y hy => e3 c h1 h2 y hy⟩
  by_cases w : y < n
  · exact e3 c' w1 (by omega) y w
  · obtain rfl : y = n := by omega
    exact h4 c' w1 w2
theorem zSeek {f : Int32 → Option (Int32 ⊕ (Int32 ⊕ Unit))} {G : Nat → Bool} {E : Nat} (hE : 1 ≤ E) (hE' : E ≤ 65) (h1 : ∀ c, 1 ≤ c → c < E → f (Int32.ofInt (c : Int)) = if G c = true then some (.inr (.inl (Int32.ofInt (c : Int)))) else some (.inl (Int32.ofInt ((c + 1 : Nat) : Int)))) (h2 : f (Int32.ofInt (E : Int)) = some (.inr (.inr ()))) : (∃ c : Nat, 1 ≤ c ∧ c < E ∧ G c = true ∧ (∀ c', 1 ≤ c' → c' < c → G c' = false) ∧ dlp f dFl 1 = some (.inl (Int32.ofInt (c : Int)))) ∨ ((∀ c, 1 ≤ c → c < E → G c = false) ∧ dlp f dFl 1 = some (.inr ())) := by
  obtain ⟨r, e, hq⟩ := dlp_inv (f := f) (Q := fun r => (∃ c : Nat, 1 ≤ c ∧ c < E ∧ G c = true ∧ (∀ c', 1 ≤ c' → c' < c → G c' = false) ∧ r = .inl (Int32.ofInt (c : Int))) ∨ ((∀ c, 1 ≤ c → c < E → G c = false) ∧ r = .inr ())) (fun k s => s = Int32.ofInt ((k + 1 : Nat) : Int) ∧ ∀ c, 1 ≤ c → c < k + 1 → G c = false) (E - 1)
    (fun k s hk hs => by
      obtain ⟨rfl, hs⟩ := hs
      rw [h1 (k + 1) (by omega) (by omega)]
      by_cases c : G (k + 1) = true
      · rw [if_pos c]
        exact Or.inr ⟨_, rfl, Or.inl ⟨k + 1, by omega, by omega, c, hs, rfl⟩⟩
      · rw [if_neg c]
        refine Or.inl ⟨_, rfl, rfl, fun c' w1 w2 => ?_⟩
        by_cases w : c' = k + 1
        · subst w; cases h : G (k + 1); rfl; exact absurd h c
        · exact hs c' w1 (by omega))
    (fun s hs => by
      obtain ⟨rfl, hs⟩ := hs
      rw [show E - 1 + 1 = E by omega] at *
      exact ⟨_, h2, Or.inr ⟨hs, rfl⟩⟩) (E - 1) 0 dFl 1 (by omega) (by show E - 1 < 100000; omega) ⟨rfl, fun c w1 w2 => by omega⟩
  rcases hq with ⟨c, w1, w2, w3, w4, rfl⟩ | ⟨w1, rfl⟩
  · exact Or.inl ⟨c, w1, w2, w3, w4, e⟩
  · exact Or.inr ⟨w1, e⟩
theorem kSpW {c : Nat} (h : c < 65) : zSp (173 + 3 * c) := by
  have : ∀ s : Fin 65, dkg (173 + 3 * s.val) 10 = true ∧ dL (173 + 3 * s.val + 1) = 10 ∧ dL (173 + 3 * s.val + 2) = 10 ∧ dK (173 + 3 * s.val + 1) = 20 ∧ dK (173 + 3 * s.val + 2) = 20 := by decide +kernel
  exact this ⟨c, h⟩
theorem kFau : dkg 371 3 = true := by decide +kernel
theorem fX10_standAt_ok {m : dM} {c : Nat} (h : c < 65) : fX10_standAt m 171 (Int32.ofInt c) = some (173 + 3 * c) := by
  unfold fX10_standAt
  have k := (kSpW h).1
  rw [dg_ok kWatch, show fX11_isWithin m (Int32.ofInt c) 0 64 = _ from fX11_isWithin_ok m (b := 0) (c := 64) (by omega) (by omega) (by omega) (by omega) (by omega) (by omega), Option.bind_some, if_pos (show (0 : Int) ≤ c ∧ (c : Int) ≤ 64 by omega), if_neg z10, show dL 172 = 65 by decide +kernel, dg_ok (dIx_nat h (by decide)), zi_cn (by omega), show 172 + 1 + 3 * c = 173 + 3 * c by omega, dg_ok k, dg_ok (dIx_nat h (by decide)), dg_ok k]
theorem fX10_tell_ok {m : dM} {a b c d : Int32} : fX10_tell m 171 a b c d = some (d1 (d1 (d1 (d1 (d1 m 371 0 a) 371 1 b) 371 2 c) 371 3 d) 171 3 a) := by
  unfold fX10_tell fX2_tell
  rw [dg_ok kWatch, dg_ok kFau]; rfl
/-- the class's memory while it looks -/
def zLk (m0 : dM) (N co : Nat) (x y : Nat → Nat → Int) (E : Nat) (q : Option (Nat × Nat)) (M : dM) : Prop := M.2 = m0.2 ∧ (∀ a, a < 171 ∨ 372 ≤ a → M.1 a = m0.1 a) ∧ (∀ c, c ≤ co → ∀ d, d < N → M.1 (173 + 3 * c + 1) d = Int32.ofInt (x c d) ∧ M.1 (173 + 3 * c + 2) d = Int32.ofInt (y c d)) ∧ M.1 171 3 = Int32.ofInt E ∧ ∀ k, k < 4 → M.1 371 k = Int32.ofInt (zQ q k)
theorem zLk_tell {m0 M : dM} {N co E n c : Nat} {x y : Nat → Nat → Int} {q : Option (Nat × Nat)} {p2 p3 p4 : Int32} (hco : co ≤ 64) (h : zLk m0 N co x y E q M) (h2 : ∀ c, p2 = Int32.ofInt (zQ (some (c, n)) 1)) (h3 : ∀ c, p3 = Int32.ofInt (zQ (some (c, n)) 2)) (h4 : ∀ c, p4 = Int32.ofInt (zQ (some (c, n)) 3)) : zLk m0 N co x y c (some (c, n)) (d1 (d1 (d1 (d1 (d1 M 371 0 (Int32.ofInt (c : Int))) 371 1 p2) 371 2 p3) 371 3 p4) 171 3 (Int32.ofInt (c : Int))) := by
  obtain ⟨i1, i2, i3, i4, i5⟩ := h
  refine ⟨i1, fun a ha => ?_, fun c' hc' d hd => ?_, ?_, fun k hk => ?_⟩
  · rw [zd1_ne (by omega), zd1_ne (by omega), zd1_ne (by omega), zd1_ne (by omega), zd1_ne (by omega)]; exact i2 a ha
  · rw [zd1_ne (by omega), zd1_ne (by omega), zd1_ne (by omega), zd1_ne (by omega), zd1_ne (by omega), zd1_ne (by omega), zd1_ne (by omega), zd1_ne (by omega), zd1_ne (by omega), zd1_ne (by omega)]; exact i3 c' hc' d hd
  · exact zd1_at
  · rw [zd1_ne (by decide)]
    match k, hk with
    | 0, _ => rw [zd1_nk (by decide), zd1_nk (by decide), zd1_nk (by decide), zd1_at]; rfl
    | 1, _ => rw [zd1_nk (by decide), zd1_nk (by decide), zd1_at]; exact h2 c
    | 2, _ => rw [zd1_nk (by decide), zd1_at]; exact h3 c
    | 3, _ => rw [zd1_at]; exact h4 c
theorem zCheck {m0 M : dM} {N co E n : Nat} {x y : Nat → Nat → Int} {F : Nat → Nat → Bool} {q : Option (Nat × Nat)} {p2 p3 p4 : Int32} {f : Int32 → Option (Int32 ⊕ (Int32 ⊕ Unit))} (hco : co ≤ 64) (h : zLk m0 N co x y E q M) (hp : zPre F co n E q) (h2 : ∀ c, p2 = Int32.ofInt (zQ (some (c, n)) 1)) (h3 : ∀ c, p3 = Int32.ofInt (zQ (some (c, n)) 2)) (h4 : ∀ c, p4 = Int32.ofInt (zQ (some (c, n)) 3)) (f1 : ∀ c : Nat, 1 ≤ c → c < E → f (Int32.ofInt (c : Int)) = if F c n = true then some (.inr (.inl (Int32.ofInt (c : Int)))) else some (.inl (Int32.ofInt ((c + 1 : Nat) : Int)))) (f2 : f (Int32.ofInt (E : Int)) = some (.inr (.inr ()))) : ∃ M' E' q', ((dlp f dFl 1).bind (fun q => dS q (fun q => dP1 q (fun v21 => (fX10_tell M 171 v21 p2 p3 p4).bind (fun m23 => some m23))) (fun _ => some M))) = some M' ∧ zLk m0 N co x y E' q' M' ∧ zPre F co (n + 1) E' q' := by
  obtain ⟨e1, e2, e3⟩ := zPre_E hp
  rcases zSeek (G := fun c => F c n) e1 (by omega) f1 f2 with ⟨c, w1, w2, w3, w4, w5⟩ | ⟨w1, w5⟩
  · refine ⟨_, c, some (c, n), ?_, zLk_tell hco h h2 h3 h4, zPre_yes hp w1 w2 w3 w4⟩
    rw [w5, Option.bind_some]
    show (fX10_tell M 171 (Int32.ofInt (c : Int)) p2 p3 p4).bind _ = _
    rw [fX10_tell_ok]; rfl
  · refine ⟨M, E, q, ?_, h, zPre_no hp (by omega) (fun c c1 c2 y y1 y2 => ?_)⟩
    · rw [w5]; rfl
    · obtain rfl : y = n := by omega
      exact w1 c c1 c2
def zMo (le : Nat → Int) (t : Int) (d : Nat) : Int := if t ≤ 120 then le d * le d else (le d * 120 / t) * (le d * 120 / t)
theorem zMo_in {le : Nat → Int} {t : Int} {d : Nat} (h1 : 5 ≤ le d) (h2 : le d ≤ 40) (t1 : 60 ≤ t) (t2 : t ≤ 240) : 0 ≤ zMo le t d ∧ zMo le t d ≤ 1600 := by
  unfold zMo
  split
  · exact ⟨Int.mul_nonneg (by omega) (by omega), Int.mul_self_le_mul_self (b := 40) (by omega) (by omega)⟩
  · have a1 : 0 ≤ le d * 120 / t := Int.ediv_nonneg (by omega) (by omega)
    have a2 : le d * 120 / t ≤ 40 := Int.ediv_le_of_le_mul (by omega) (by omega)
    exact ⟨Int.mul_nonneg a1 a1, Int.mul_self_le_mul_self (b := 40) a1 a2⟩
theorem fX1_stepSquare_ok {N : Nat} {le kn : Nat → Int} {il io : Nat → Bool} {m : dM} (hd : zDr N le kn) (hdc : zDc N le kn il io m) {d : Nat} (h10 : d < 10) {t : Int} (t1 : 60 ≤ t) (t2 : t ≤ 240) : fX1_stepSquare m 1 (Int32.ofInt d) (Int32.ofInt t) = some (Int32.ofInt (zMo le t d)) := by
  obtain ⟨b1, b2⟩ := hd.2.2.1 d h10
  unfold fX1_stepSquare fX1_legsOf zMo
  rw [dg_ok kDots, dg_ok kDots, fX11_isInRow_nat m h10, Option.bind_some, if_neg z10, kd2, dg_ok (dIx_nat h10 (by decide)), zi_cn (by omega), (hdc.2.1 d h10).1, Option.bind_some, show (120 : Int32) = Int32.ofInt 120 from rfl, zi_mul, zi_mul]
  by_cases c : t ≤ 120
  · rw [if_pos (by rw [zi_le (by omega) (by omega) (by omega) (by omega)]; exact c), if_pos c]
  · rw [if_neg (by rw [zi_le (by omega) (by omega) (by omega) (by omega)]; exact c), if_neg c, fX11_downBy_ok m (by omega) (by omega) (by omega) (by omega), Option.bind_some, zi_mul]
theorem zcc {c : Nat} (h : 1 ≤ c) : Int32.ofInt (c : Int) - 1 = Int32.ofInt ((c - 1 : Nat) : Int) := by
  rw [show (1 : Int32) = Int32.ofInt 1 from rfl, zi_sub]; congr 1; omega
/-- squares in the rows of the class, as whole numbers -/
theorem zSqC {m : dM} {p q d e : Nat} (hp : zSp p) (hq : zSp q) (hd : d < 10) (he : e < 10) {a b c f : Int} (h1 : m.1 (p + 1) d = Int32.ofInt a) (h2 : m.1 (p + 2) d = Int32.ofInt b) (h3 : m.1 (q + 1) e = Int32.ofInt c) (h4 : m.1 (q + 2) e = Int32.ofInt f) : fX9_squareTo m p (Int32.ofInt d) q (Int32.ofInt e) = some (Int32.ofInt (zSq a b c f)) := by
  rw [fX9_squareTo_ok hp hq hd he, h1, h2, h3, h4, zi_sub, zi_sub, zi_mul, zi_mul, zi_add]; rfl
def zOnF (N co : Nat) (x y : Nat → Nat → Int) : Prop := ∀ c, c ≤ co → ∀ d, d < N → (0 ≤ x c d ∧ x c d ≤ 1600) ∧ 0 ≤ y c d ∧ y c d ≤ 840
theorem zOnF_sq {N co : Nat} {x y : Nat → Nat → Int} (h : zOnF N co x y) {c c' d d' : Nat} (h1 : c ≤ co) (h2 : c' ≤ co) (h3 : d < N) (h4 : d' < N) : 0 ≤ zSq (x c d) (y c d) (x c' d') (y c' d') ∧ zSq (x c d) (y c d) (x c' d') (y c' d') ≤ 5120000 := by
  obtain ⟨a1, a2⟩ := h c h1 d h3
  obtain ⟨a3, a4⟩ := h c' h2 d' h4
  exact zSq_in (by omega) (by omega) (by omega) (by omega) (by omega) (by omega) (by omega) (by omega)
theorem fX10_seekStep_ok {m0 M : dM} {N co E d : Nat} {x y : Nat → Nat → Int} {mar : Nat → Bool} {mo : Nat → Int} {q : Option (Nat × Nat)} (hN : N ≤ 10) (hco : co ≤ 64) (hx : zOnF N co x y) (h : zLk m0 N co x y E q M) (hp : zPre (zFlt N mar mo x y) co d E q) (hd : d < N) (hm : mar d = true) (m1 : 0 ≤ mo d) (m2 : mo d ≤ 1600) : ∃ M' E' q', fX10_seekStep M 171 (Int32.ofInt d) (Int32.ofInt (mo d)) = some M' ∧ zLk m0 N co x y E' q' M' ∧ zPre (zFlt N mar mo x y) co (d + 1) E' q' := by
  obtain ⟨e1, e2, e3⟩ := zPre_E hp
  obtain ⟨i1, i2, i3, i4, i5⟩ := id h
  unfold fX10_seekStep
  rw [dg_ok kWatch]
  refine zCheck hco h hp (fun c => ?_) (fun c => ?_) (fun c => ?_) (fun c c1 c2 => ?_) ?_
  · show _ = Int32.ofInt ((d / 100 : Nat) : Int); rw [show d / 100 = 0 by omega]; rfl
  · show _ = Int32.ofInt (if d < 100 then (d : Int) else _); rw [if_pos (by omega)]
  · show _ = Int32.ofInt (if d < 100 then (-1 : Int) else _); rw [if_pos (by omega)]; rfl
  · show fX10_seekStep_l2 M 171 (Int32.ofInt d) (Int32.ofInt (mo d)) (Int32.ofInt (c : Int)) = _
    unfold fX10_seekStep_l2
    have bd := zOnF_sq hx (c := c) (c' := c - 1) (d := d) (d' := d) (by omega) (by omega) hd hd
    rw [i4, if_neg (by rw [zi_le (by omega) (by omega) (by omega) (by omega)]; omega), fX10_standAt_ok (by omega), Option.bind_some, dg_ok (kSpW (by omega)).1, zcc c1, fX10_standAt_ok (by omega), Option.bind_some, dg_ok (kSpW (by omega)).1, zSqC (kSpW (by omega)) (kSpW (by omega)) (by omega) (by omega) (i3 c (by omega) d hd).1 (i3 c (by omega) d hd).2 (i3 (c - 1) (by omega) d hd).1 (i3 (c - 1) (by omega) d hd).2, Option.bind_some, zFlt_step (by omega), hm, decide_eq_true hd]
    by_cases w : mo d < zSq (x c d) (y c d) (x (c - 1) d) (y (c - 1) d)
    · rw [if_neg (by rw [zi_le (by omega) (by omega) (by omega) (by omega)]; omega), decide_eq_true w, if_pos (by decide)]
    · rw [if_pos (by rw [zi_le (by omega) (by omega) (by omega) (by omega)]; omega), decide_eq_false w, if_neg (by decide), dlet_v, show (1 : Int32) = Int32.ofInt 1 from rfl, zi_add]; rfl
  · show fX10_seekStep_l2 M 171 (Int32.ofInt d) (Int32.ofInt (mo d)) (Int32.ofInt (E : Int)) = _
    unfold fX10_seekStep_l2
    rw [i4, if_pos (Int32.le_refl _)]
theorem fX10_seekNear_ok {m0 M : dM} {N co E d e : Nat} {x y : Nat → Nat → Int} {mar : Nat → Bool} {mo : Nat → Int} {q : Option (Nat × Nat)} (hN : N ≤ 10) (hco : co ≤ 64) (hx : zOnF N co x y) (h : zLk m0 N co x y E q M) (hp : zPre (zFlt N mar mo x y) co (100 + 10 * d + e) E q) (hde : d < e) (he : e < N) (hm : mar d = true) (hm' : mar e = true) : ∃ M' E' q', fX10_seekNear M 171 (Int32.ofInt d) (Int32.ofInt e) = some M' ∧ zLk m0 N co x y E' q' M' ∧ zPre (zFlt N mar mo x y) co (100 + 10 * d + e + 1) E' q' := by
  obtain ⟨e1, e2, e3⟩ := zPre_E hp
  obtain ⟨i1, i2, i3, i4, i5⟩ := id h
  unfold fX10_seekNear
  rw [dg_ok kWatch]
  refine zCheck hco h hp (fun c => ?_) (fun c => ?_) (fun c => ?_) (fun c c1 c2 => ?_) ?_
  · show _ = Int32.ofInt (((100 + 10 * d + e) / 100 : Nat) : Int); rw [show (100 + 10 * d + e) / 100 = 1 by omega]; rfl
  · show _ = Int32.ofInt (if (100 + 10 * d + e) < 100 then _ else (((100 + 10 * d + e) % 100 / 10 : Nat) : Int)); rw [if_neg (by omega), show (100 + 10 * d + e) % 100 / 10 = d by omega]
  · show _ = Int32.ofInt (if (100 + 10 * d + e) < 100 then (-1 : Int) else (((100 + 10 * d + e) % 10 : Nat) : Int)); rw [if_neg (by omega), show (100 + 10 * d + e) % 10 = e by omega]
  · show fX10_seekNear_l2 M 171 (Int32.ofInt d) (Int32.ofInt e) (Int32.ofInt (c : Int)) = _
    unfold fX10_seekNear_l2
    have bd := zOnF_sq hx (c := c) (c' := c) (d := d) (d' := e) (by omega) (by omega) (by omega) he
    rw [i4, if_neg (by rw [zi_le (by omega) (by omega) (by omega) (by omega)]; omega), fX10_standAt_ok (by omega), Option.bind_some, dg_ok (kSpW (by omega)).1, zSqC (kSpW (by omega)) (kSpW (by omega)) (by omega) (by omega) (i3 c (by omega) d (by omega)).1 (i3 c (by omega) d (by omega)).2 (i3 c (by omega) e he).1 (i3 c (by omega) e he).2, Option.bind_some, zFlt_near (by omega) (by omega), hm, hm', decide_eq_true (show d < e ∧ e < N from ⟨hde, he⟩)]
    by_cases w : zSq (x c d) (y c d) (x c e) (y c e) < 100
    · rw [if_neg (by rw [show (100 : Int32) = Int32.ofInt 100 from rfl, zi_le (by omega) (by omega) (by omega) (by omega)]; omega), decide_eq_true w, if_pos (by decide)]
    · rw [if_pos (by rw [show (100 : Int32) = Int32.ofInt 100 from rfl, zi_le (by omega) (by omega) (by omega) (by omega)]; omega), decide_eq_false w, if_neg (by decide), dlet_v, show (1 : Int32) = Int32.ofInt 1 from rfl, zi_add]; rfl
  · show fX10_seekNear_l2 M 171 (Int32.ofInt d) (Int32.ofInt e) (Int32.ofInt (E : Int)) = _
    unfold fX10_seekNear_l2
    rw [i4, if_pos (Int32.le_refl _)]
theorem zSide_in {x0 y0 x1 y1 p q : Int} (h1 : 0 ≤ x0 ∧ x0 ≤ 1600) (h2 : 0 ≤ y0 ∧ y0 ≤ 1600) (h3 : 0 ≤ x1 ∧ x1 ≤ 1600) (h4 : 0 ≤ y1 ∧ y1 ≤ 1600) (h5 : 0 ≤ p ∧ p ≤ 1600) (h6 : 0 ≤ q ∧ q ≤ 1600) : -5120000 ≤ zSide x0 y0 x1 y1 p q ∧ zSide x0 y0 x1 y1 p q ≤ 5120000 := by
  have m : ∀ u v : Int, -1600 ≤ u → u ≤ 1600 → -1600 ≤ v → v ≤ 1600 → -2560000 ≤ u * v ∧ u * v ≤ 2560000 := by
    intro u v u1 u2 v1 v2
    rcases Int.lt_or_le u 0 with w | w
    · have := zmul_bd (c := -u) (e := v) (n := 1600) (M := 1600) (by omega) (by omega) (by omega) (by omega) (by omega)
      rw [Int.neg_mul] at this; omega
    · have := zmul_bd (c := u) (e := v) (n := 1600) (M := 1600) (by omega) (by omega) (by omega) (by omega) (by omega)
      omega
  have a := m (x1 - x0) (q - y0) (by omega) (by omega) (by omega) (by omega)
  have b := m (y1 - y0) (p - x0) (by omega) (by omega) (by omega) (by omega)
  unfold zSide
  omega
theorem fX9_isParted_ok {m : dM} {p q d e : Nat} (hp : zSp p) (hq : zSp q) (hd : d < 10) (he : e < 10) {a0 b0 a1 b1 c0 d0 c1 d1 : Int} (h1 : m.1 (p + 1) d = Int32.ofInt a0) (h2 : m.1 (p + 2) d = Int32.ofInt b0) (h3 : m.1 (q + 1) d = Int32.ofInt a1) (h4 : m.1 (q + 2) d = Int32.ofInt b1) (h5 : m.1 (p + 1) e = Int32.ofInt c0) (h6 : m.1 (p + 2) e = Int32.ofInt d0) (h7 : m.1 (q + 1) e = Int32.ofInt c1) (h8 : m.1 (q + 2) e = Int32.ofInt d1) (ba0 : 0 ≤ a0 ∧ a0 ≤ 1600) (bb0 : 0 ≤ b0 ∧ b0 ≤ 1600) (ba1 : 0 ≤ a1 ∧ a1 ≤ 1600) (bb1 : 0 ≤ b1 ∧ b1 ≤ 1600) (bc0 : 0 ≤ c0 ∧ c0 ≤ 1600) (bd0 : 0 ≤ d0 ∧ d0 ≤ 1600) (bc1 : 0 ≤ c1 ∧ c1 ≤ 1600) (bd1 : 0 ≤ d1 ∧ d1 ≤ 1600) : fX9_isParted m p q (Int32.ofInt d) (Int32.ofInt e) = some (zB (zOpp (zSide a0 b0 a1 b1 c0 d0) (zSide a0 b0 a1 b1 c1 d1))) := by
  have s1 := zSide_in ba0 bb0 ba1 bb1 bc0 bd0
  have s2 := zSide_in ba0 bb0 ba1 bb1 bc1 bd1
  unfold fX9_isParted
  rw [dg_ok hp.1, dg_ok hq.1, fX11_isInRow_nat m hd, Option.bind_some, if_neg z10, fX11_isInRow_nat m he, Option.bind_some, if_neg z10, hp.2.1, hp.2.2.1, hq.2.1, hq.2.2.1, dg_ok (dIx_nat hd (by decide)), dlet_v, dg_ok (dIx_nat hd (by decide)), dlet_v, dg_ok (dIx_nat hd (by decide)), dlet_v, dg_ok (dIx_nat hd (by decide)), dlet_v, dg_ok (dIx_nat he (by decide)), dg_ok (dIx_nat he (by decide)), dlet_v, dg_ok (dIx_nat he (by decide)), dg_ok (dIx_nat he (by decide)), dlet_v, zi_cn (by omega), zi_cn (by omega), h1, h2, h3, h4, h5, h6, h7, h8, zi_sub, zi_sub, zi_sub, zi_sub, zi_sub, zi_sub, zi_mul, zi_mul, zi_mul, zi_mul, zi_sub, zi_sub]
  rw [show (a1 - a0) * (d0 - b0) - (b1 - b0) * (c0 - a0) = zSide a0 b0 a1 b1 c0 d0 from rfl, show (a1 - a0) * (d1 - b0) - (b1 - b0) * (c1 - a0) = zSide a0 b0 a1 b1 c1 d1 from rfl]
  generalize zSide a0 b0 a1 b1 c0 d0 = s at *
  generalize zSide a0 b0 a1 b1 c1 d1 = t at *
  unfold zOpp
  have l1 : (0 ≤ Int32.ofInt s) = (0 ≤ s) := zi_le (a := 0) (by omega) (by omega) (by omega) (by omega)
  have l2 : (Int32.ofInt s ≤ 0) = (s ≤ 0) := zi_le (b := 0) (by omega) (by omega) (by omega) (by omega)
  have l3 : (0 ≤ Int32.ofInt t) = (0 ≤ t) := zi_le (a := 0) (by omega) (by omega) (by omega) (by omega)
  have l4 : (0 < Int32.ofInt t) = (0 < t) := zi_lt (a := 0) (by omega) (by omega) (by omega) (by omega)
  simp only [l1, l2, l3, l4]
  by_cases c1 : 0 ≤ s
  · rw [if_pos c1]
    by_cases c2 : s ≤ 0
    · rw [if_pos c2, decide_eq_false (by omega)]; rfl
    · rw [if_neg c2]
      by_cases c3 : 0 ≤ t
      · rw [if_pos c3, decide_eq_false (by omega)]; rfl
      · rw [if_neg c3, decide_eq_true (by omega)]; rfl
  · rw [if_neg c1]
    by_cases c2 : 0 < t
    · rw [if_pos c2, decide_eq_true (by omega)]; rfl
    · rw [if_neg c2, if_pos (by omega), decide_eq_false (by omega)]; rfl
theorem fX9_isCrossing_ok {m : dM} {p q d e : Nat} (hp : zSp p) (hq : zSp q) (hd : d < 10) (he : e < 10) {a0 b0 a1 b1 c0 d0 c1 d1 : Int} (h1 : m.1 (p + 1) d = Int32.ofInt a0) (h2 : m.1 (p + 2) d = Int32.ofInt b0) (h3 : m.1 (q + 1) d = Int32.ofInt a1) (h4 : m.1 (q + 2) d = Int32.ofInt b1) (h5 : m.1 (p + 1) e = Int32.ofInt c0) (h6 : m.1 (p + 2) e = Int32.ofInt d0) (h7 : m.1 (q + 1) e = Int32.ofInt c1) (h8 : m.1 (q + 2) e = Int32.ofInt d1) (ba0 : 0 ≤ a0 ∧ a0 ≤ 1600) (bb0 : 0 ≤ b0 ∧ b0 ≤ 1600) (ba1 : 0 ≤ a1 ∧ a1 ≤ 1600) (bb1 : 0 ≤ b1 ∧ b1 ≤ 1600) (bc0 : 0 ≤ c0 ∧ c0 ≤ 1600) (bd0 : 0 ≤ d0 ∧ d0 ≤ 1600) (bc1 : 0 ≤ c1 ∧ c1 ≤ 1600) (bd1 : 0 ≤ d1 ∧ d1 ≤ 1600) : fX9_isCrossing m p q (Int32.ofInt d) (Int32.ofInt e) = some (zB (zCrs a0 b0 a1 b1 c0 d0 c1 d1)) := by
  unfold fX9_isCrossing zCrs
  rw [dg_ok hp.1, dg_ok hq.1, fX9_isParted_ok hp hq hd he h1 h2 h3 h4 h5 h6 h7 h8 ba0 bb0 ba1 bb1 bc0 bd0 bc1 bd1, Option.bind_some, fX9_isParted_ok hp hq he hd h5 h6 h7 h8 h1 h2 h3 h4 bc0 bd0 bc1 bd1 ba0 bb0 ba1 bb1, Option.bind_some]
  cases zOpp (zSide a0 b0 a1 b1 c0 d0) (zSide a0 b0 a1 b1 c1 d1)
  · rw [if_pos (show zB false = 0 from rfl)]; rfl
  · rw [if_neg (show ¬ zB true = 0 by decide)]
    cases zOpp (zSide c0 d0 c1 d1 a0 b0) (zSide c0 d0 c1 d1 a1 b1)
    · rw [if_pos (show zB false = 0 from rfl)]; rfl
    · rw [if_neg (show ¬ zB true = 0 by decide)]; rfl
theorem fX10_seekCrossing_ok {m0 M : dM} {N co E d e : Nat} {x y : Nat → Nat → Int} {mar : Nat → Bool} {mo : Nat → Int} {q : Option (Nat × Nat)} (hN : N ≤ 10) (hco : co ≤ 64) (hx : zOnF N co x y) (hmo : ∀ d, d < N → mo d ≤ 1600) (h : zLk m0 N co x y E q M) (hp : zPre (zFlt N mar mo x y) co (200 + 10 * d + e) E q) (hde : d < e) (he : e < N) (hm : mar d = true) (hm' : mar e = true) : ∃ M' E' q', fX10_seekCrossing M 171 (Int32.ofInt d) (Int32.ofInt e) = some M' ∧ zLk m0 N co x y E' q' M' ∧ zPre (zFlt N mar mo x y) co (200 + 10 * d + e + 1) E' q' := by
  obtain ⟨e1, e2, e3⟩ := zPre_E hp
  obtain ⟨i1, i2, i3, i4, i5⟩ := id h
  unfold fX10_seekCrossing
  rw [dg_ok kWatch]
  refine zCheck hco h hp (fun c => ?_) (fun c => ?_) (fun c => ?_) (fun c c1 c2 => ?_) ?_
  · show _ = Int32.ofInt (((200 + 10 * d + e) / 100 : Nat) : Int); rw [show (200 + 10 * d + e) / 100 = 2 by omega]; rfl
  · show _ = Int32.ofInt (if (200 + 10 * d + e) < 100 then _ else (((200 + 10 * d + e) % 100 / 10 : Nat) : Int)); rw [if_neg (by omega), show (200 + 10 * d + e) % 100 / 10 = d by omega]
  · show _ = Int32.ofInt (if (200 + 10 * d + e) < 100 then (-1 : Int) else (((200 + 10 * d + e) % 10 : Nat) : Int)); rw [if_neg (by omega), show (200 + 10 * d + e) % 10 = e by omega]
  · show fX10_seekCrossing_l2 M 171 (Int32.ofInt d) (Int32.ofInt e) (Int32.ofInt (c : Int)) = _
    unfold fX10_seekCrossing_l2
    have bd := zOnF_sq hx (c := c) (c' := c) (d := d) (d' := e) (by omega) (by omega) (by omega) he
    have st : ∀ f, f < N → mar f = true → zSq (x c f) (y c f) (x (c - 1) f) (y (c - 1) f) ≤ 1600 := by
      intro f hf hmf
      have w := e3 c c1 c2 f (by omega)
      rw [zFlt_step (by omega), hmf, decide_eq_true hf] at w
      have w : decide (mo f < zSq (x c f) (y c f) (x (c - 1) f) (y (c - 1) f)) = false := w
      have w := of_decide_eq_false w
      have := hmo f hf
      omega
    have j1 := i3 c (by omega) d (by omega)
    have j2 := i3 c (by omega) e he
    have j3 := i3 (c - 1) (by omega) d (by omega)
    have j4 := i3 (c - 1) (by omega) e he
    have b1 := hx c (by omega) d (by omega)
    have b2 := hx c (by omega) e he
    have b3 := hx (c - 1) (by omega) d (by omega)
    have b4 := hx (c - 1) (by omega) e he
    rw [i4, if_neg (by rw [zi_le (by omega) (by omega) (by omega) (by omega)]; omega), fX10_standAt_ok (by omega), Option.bind_some, dg_ok (kSpW (by omega)).1, zSqC (kSpW (by omega)) (kSpW (by omega)) (by omega) (by omega) j1.1 j1.2 j2.1 j2.2, Option.bind_some, zFlt_cross (by omega) (by omega), hm, hm', decide_eq_true (show d < e ∧ e < N from ⟨hde, he⟩)]
    have near := zCrs_near (a0 := x (c - 1) d) (b0 := y (c - 1) d) (a1 := x c d) (b1 := y c d) (c0 := x (c - 1) e) (d0 := y (c - 1) e) (c1 := x c e) (d1 := y c e)
    by_cases w : 6400 < zSq (x c d) (y c d) (x c e) (y c e)
    · have cr : zCrs (x (c - 1) d) (y (c - 1) d) (x c d) (y c d) (x (c - 1) e) (y (c - 1) e) (x c e) (y c e) = false := by
        cases hc : zCrs (x (c - 1) d) (y (c - 1) d) (x c d) (y c d) (x (c - 1) e) (y (c - 1) e) (x c e) (y c e)
        · rfl
        · have := near hc (st d (by omega) hm) (st e he hm'); omega
      rw [if_pos (by rw [show (6400 : Int32) = Int32.ofInt 6400 from rfl, zi_lt (by omega) (by omega) (by omega) (by omega)]; omega), cr, if_neg (by decide), dlet_v, show (1 : Int32) = Int32.ofInt 1 from rfl, zi_add]; rfl
    · rw [if_neg (by rw [show (6400 : Int32) = Int32.ofInt 6400 from rfl, zi_lt (by omega) (by omega) (by omega) (by omega)]; omega), zcc c1, fX10_standAt_ok (by omega), Option.bind_some, dg_ok (kSpW (by omega)).1, fX9_isCrossing_ok (kSpW (by omega)) (kSpW (by omega)) (by omega) (by omega) j3.1 j3.2 j1.1 j1.2 j4.1 j4.2 j2.1 j2.2 (by omega) (by omega) (by omega) (by omega) (by omega) (by omega) (by omega) (by omega), Option.bind_some]
      cases zCrs (x (c - 1) d) (y (c - 1) d) (x c d) (y c d) (x (c - 1) e) (y (c - 1) e) (x c e) (y c e)
      · rw [if_pos (show zB false = 0 from rfl), if_neg (by decide), dlet_v, show (1 : Int32) = Int32.ofInt 1 from rfl, zi_add]; rfl
      · rw [if_neg (show ¬ zB true = 0 by decide), if_pos (by decide)]
  · show fX10_seekCrossing_l2 M 171 (Int32.ofInt d) (Int32.ofInt e) (Int32.ofInt (E : Int)) = _
    unfold fX10_seekCrossing_l2
    rw [i4, if_pos (Int32.le_refl _)]
theorem zFlt_no {N : Nat} {mar : Nat → Bool} {mo : Nat → Int} {x y : Nat → Nat → Int} {B d e c : Nat} (hB : B = 100 ∨ B = 200) (hd : d < 10) (he : e < 10) (h : ¬ (d < e ∧ e < N) ∨ mar d = false ∨ mar e = false) : zFlt N mar mo x y c (B + 10 * d + e) = false := by
  have k : ∀ b : Bool, (decide (d < e ∧ e < N) && mar d && mar e && b) = false := by
    intro b
    rcases h with h | h | h
    · rw [decide_eq_false h]; rfl
    · rw [h, Bool.and_false]; rfl
    · rw [h, Bool.and_false]; rfl
  rcases hB with rfl | rfl
  · rw [zFlt_near hd he]; exact k _
  · rw [zFlt_cross hd he]; exact k _
theorem zLk_dc {m0 M : dM} {N co E : Nat} {x y : Nat → Nat → Int} {q : Option (Nat × Nat)} {le kn : Nat → Int} {il io : Nat → Bool} (h : zLk m0 N co x y E q M) (hdc : zDc N le kn il io m0) : zDc N le kn il io M := hdc.to (fun a q1 q2 => h.2.1 a (by omega))
theorem zPairs {m0 M : dM} {N co E B : Nat} {x y : Nat → Nat → Int} {mo : Nat → Int} {q : Option (Nat × Nat)} {le kn : Nat → Int} {il io : Nat → Bool} {p1 : Int32} {seek : dM → Int32 → Int32 → Option dM} (hd : zDr N le kn) (hdc : zDc N le kn il io m0) (hco : co ≤ 64) (hB : B = 100 ∨ B = 200) (h : zLk m0 N co x y E q M) (hp : zPre (zFlt N (zMar kn il io) mo x y) co B E q)
    (st : ∀ (M : dM) (d e : Nat), zDc N le kn il io M → d < e → e < N → zMar kn il io d = true → fX10_seekPairs_l20 171 p1 1 (Int32.ofInt N) (Int32.ofInt d) (Int32.ofInt e) M = if zMar kn il io e = true then (seek M (Int32.ofInt d) (Int32.ofInt e)).bind (fun m => some (.inl (Int32.ofInt ((e + 1 : Nat) : Int), m))) else some (.inl (Int32.ofInt ((e + 1 : Nat) : Int), M)))
    (sk : ∀ (M : dM) (E : Nat) (q : Option (Nat × Nat)) (d e : Nat), zLk m0 N co x y E q M → zPre (zFlt N (zMar kn il io) mo x y) co (B + 10 * d + e) E q → d < e → e < N → zMar kn il io d = true → zMar kn il io e = true → ∃ M' E' q', seek M (Int32.ofInt d) (Int32.ofInt e) = some M' ∧ zLk m0 N co x y E' q' M' ∧ zPre (zFlt N (zMar kn il io) mo x y) co (B + 10 * d + e + 1) E' q') : ∃ M' E' q', fX10_seekPairs M 171 p1 1 = some M' ∧ zLk m0 N co x y E' q' M' ∧ zPre (zFlt N (zMar kn il io) mo x y) co (B + 100) E' q' := by
  have hN := hd.2.1
  unfold fX10_seekPairs fX1_number
  rw [dg_ok kWatch, dg_ok kDots, dg_ok kDots, (zLk_dc h hdc).1, Option.bind_some]
  obtain ⟨r, e, E', q', w1, w2⟩ := dlp_inv (f := fun q => dP2 q (fun v4 m5 => fX10_seekPairs_l8 171 p1 1 (Int32.ofInt N) v4 m5)) (Q := fun r => ∃ E' q', zLk m0 N co x y E' q' r ∧ zPre (zFlt N (zMar kn il io) mo x y) co (B + 10 * N) E' q') (fun k s => s.1 = Int32.ofInt (k : Int) ∧ ∃ E' q', zLk m0 N co x y E' q' s.2 ∧ zPre (zFlt N (zMar kn il io) mo x y) co (B + 10 * k) E' q') N
    (fun k s hk hs => by
      obtain ⟨v, Q⟩ := s
      obtain ⟨i1, E1, q1, i2, i3⟩ := hs
      have i1 : v = Int32.ofInt (k : Int) := i1
      have i2 : zLk m0 N co x y E1 q1 Q := i2
      subst i1
      have inner : ∃ M' E' q', dlp (fun q => dP2 q (fun v52 m53 => fX10_seekPairs_l20 171 p1 1 (Int32.ofInt N) (Int32.ofInt (k : Int)) v52 m53)) dFl (Int32.ofInt ((k + 1 : Nat) : Int), Q) = some M' ∧ zLk m0 N co x y E' q' M' ∧ zPre (zFlt N (zMar kn il io) mo x y) co (B + 10 * (k + 1)) E' q' := by
        cases hm : zMar kn il io k
        · refine ⟨Q, E1, q1, ?_, i2, zPre_no i3 (by omega) (fun c c1 c2 y y1 y2 => ?_)⟩
          · rw [show dFl = 99999 + 1 from rfl]
            refine dlp2 ?_
            show fX10_seekPairs_l20 171 p1 1 (Int32.ofInt N) (Int32.ofInt (k : Int)) (Int32.ofInt ((k + 1 : Nat) : Int)) Q = _
            unfold fX10_seekPairs_l20
            rw [fX1_marches_ok hd (zLk_dc i2 hdc) (by omega), Option.bind_some, hm, if_pos (show zB false = 0 from rfl)]
            split <;> rfl
          · rw [show y = B + 10 * k + (y - (B + 10 * k)) by omega]
            exact zFlt_no hB (by omega) (by omega) (Or.inr (Or.inl hm))
        · obtain ⟨r, e, E', q', w1, w2⟩ := dlp_inv (f := fun q => dP2 q (fun v52 m53 => fX10_seekPairs_l20 171 p1 1 (Int32.ofInt N) (Int32.ofInt (k : Int)) v52 m53)) (Q := fun r => ∃ E' q', zLk m0 N co x y E' q' r ∧ zPre (zFlt N (zMar kn il io) mo x y) co (B + 10 * k + N) E' q') (fun j s => s.1 = Int32.ofInt ((k + 1 + j : Nat) : Int) ∧ ∃ E' q', zLk m0 N co x y E' q' s.2 ∧ zPre (zFlt N (zMar kn il io) mo x y) co (B + 10 * k + (k + 1 + j)) E' q') (N - (k + 1))
            (fun j s hj hs => by
              obtain ⟨v, Q⟩ := s
              obtain ⟨i1, E1, q1, i2, i3⟩ := hs
              have i1 : v = Int32.ofInt ((k + 1 + j : Nat) : Int) := i1
              have i2 : zLk m0 N co x y E1 q1 Q := i2
              subst i1
              refine Or.inl ?_
              show ∃ s', fX10_seekPairs_l20 171 p1 1 (Int32.ofInt N) (Int32.ofInt (k : Int)) (Int32.ofInt ((k + 1 + j : Nat) : Int)) Q = _ ∧ _
              rw [st Q k (k + 1 + j) (zLk_dc i2 hdc) (by omega) (by omega) hm]
              by_cases c : zMar kn il io (k + 1 + j) = true
              · rw [if_pos c]
                obtain ⟨M', E', q', w1, w2, w3⟩ := sk Q E1 q1 k (k + 1 + j) i2 i3 (by omega) (by omega) hm c
                rw [w1, Option.bind_some]
                exact ⟨_, rfl, rfl, E', q', w2, w3⟩
              · rw [if_neg c]
                refine ⟨_, rfl, rfl, E1, q1, i2, zPre_no i3 (by omega) (fun c' c1 c2 y y1 y2 => ?_)⟩
                rw [show y = B + 10 * k + (k + 1 + j) by omega]
                exact zFlt_no hB (by omega) (by omega) (Or.inr (Or.inr (by cases h : zMar kn il io (k + 1 + j); rfl; exact absurd h c))))
            (fun s hs => by
              obtain ⟨v, Q⟩ := s
              obtain ⟨i1, E1, q1, i2, i3⟩ := hs
              have i1 : v = Int32.ofInt ((k + 1 + (N - (k + 1)) : Nat) : Int) := i1
              rw [show k + 1 + (N - (k + 1)) = N by omega] at i1 i3
              subst i1
              refine ⟨Q, ?_, E1, q1, i2, i3⟩
              show fX10_seekPairs_l20 171 p1 1 (Int32.ofInt N) (Int32.ofInt (k : Int)) (Int32.ofInt (N : Int)) Q = _
              unfold fX10_seekPairs_l20
              rw [if_pos (Int32.le_refl _)]) (N - (k + 1)) 0 dFl (Int32.ofInt ((k + 1 : Nat) : Int), Q) (by omega) (by show _ < 100000; omega) ⟨rfl, E1, q1, i2, zPre_no i3 (by omega) (fun c c1 c2 y y1 y2 => by
                rw [show y = B + 10 * k + (y - (B + 10 * k)) by omega]
                exact zFlt_no hB (by omega) (by omega) (Or.inl (by omega)))⟩
          refine ⟨r, E', q', e, w1, zPre_no w2 (by omega) (fun c c1 c2 y y1 y2 => ?_)⟩
          rw [show y = B + 10 * k + (y - (B + 10 * k)) by omega]
          exact zFlt_no hB (by omega) (by omega) (Or.inl (by omega))
      obtain ⟨M', E', q', w1, w2, w3⟩ := inner
      refine Or.inl ⟨(Int32.ofInt ((k + 1 : Nat) : Int), M'), ?_, rfl, E', q', w2, w3⟩
      show fX10_seekPairs_l8 171 p1 1 (Int32.ofInt N) (Int32.ofInt (k : Int)) Q = _
      unfold fX10_seekPairs_l8
      rw [if_neg (by rw [zi_le (by omega) (by omega) (by omega) (by omega)]; omega), show (1 : Int32) = Int32.ofInt 1 from rfl, zi_add, dlet_v, show ((k : Int) + 1) = ((k + 1 : Nat) : Int) from rfl, w1]
      rfl)
    (fun s hs => by
      obtain ⟨v, Q⟩ := s
      obtain ⟨i1, E1, q1, i2, i3⟩ := hs
      have i1 : v = Int32.ofInt (N : Int) := i1
      subst i1
      refine ⟨Q, ?_, E1, q1, i2, i3⟩
      show fX10_seekPairs_l8 171 p1 1 (Int32.ofInt N) (Int32.ofInt (N : Int)) Q = _
      unfold fX10_seekPairs_l8
      rw [if_pos (Int32.le_refl _)]) N 0 dFl (0, M) (by omega) (by show _ < 100000; omega) ⟨rfl, E, q, h, hp⟩
  refine ⟨r, E', q', by rw [e]; rfl, w1, zPre_no w2 (by omega) (fun c c1 c2 y y1 y2 => ?_)⟩
  rw [show y = B + 10 * ((y - B) / 10) + (y - B) % 10 by omega]
  exact zFlt_no hB (by omega) (by omega) (Or.inl (by omega))
theorem zi_1 (a : Int) : Int32.ofInt a + 1 = Int32.ofInt (a + 1) := by rw [show (1 : Int32) = Int32.ofInt 1 from rfl, zi_add]
def zXc (X : Nat → Nat → Int) (co : Nat → Int) (i : Nat) : Nat → Nat → Int := fun c d => zSt X co i (c : Int) d
theorem zXc_on {N S P : Nat} {sx sy : Nat → Nat → Int} {so : Nat → Nat} {co te : Nat → Int} {lt : Nat → Bool} {go : Nat → Nat → Nat} (hs : zSr N S sx sy) (hr : zPr N S P sx sy so co te lt go) {i n : Nat} (hi : i < P) (hn : co i = n) : zOnF N n (zXc (zX sx so go) co i) (zXc (zX sy so go) co i) := fun c hc d hd => zSt_in hs hr hi hd (by omega) (by omega)
theorem fX10_look_ok {N S P : Nat} {le kn : Nat → Int} {il io : Nat → Bool} {sx sy : Nat → Nat → Int} {so : Nat → Nat} {co te : Nat → Int} {lt : Nat → Bool} {go : Nat → Nat → Nat} {m : dM} (hd : zDr N le kn) (hdc : zDc N le kn il io m) (hs : zSr N S sx sy) (hr : zPr N S P sx sy so co te lt go) (h : zPc N P sx sy so co te lt go m) {i n : Nat} (hi : i < P) (hn : co i = n) : ∃ M q, fX10_look m 171 (49 + 8 * i) 1 = some (371, M) ∧ zFirst (zFlt N (zMar kn il io) (zMo le (te i)) (zXc (zX sx so go) co i) (zXc (zX sy so go) co i)) n q ∧ M.2 = m.2 ∧ (∀ a, a < 171 ∨ 372 ≤ a → M.1 a = m.1 a) ∧ ∀ k, k < 4 → M.1 371 k = Int32.ofInt (zQ q k) := by
  have hN := hd.2.1
  have hP := hr.1
  obtain ⟨r1, r2, r3, r4, r5, r6, r7⟩ := hr.2 i hi
  have hx := zXc_on hs hr hi hn
  have hmo : ∀ d, d < N → 0 ≤ zMo le (te i) d ∧ zMo le (te i) d ≤ 1600 := fun d hdN => by
    obtain ⟨b1, b2⟩ := hd.2.2.1 d (by omega)
    exact zMo_in b1 b2 r4 r5
  unfold fX10_look fX1_number fX2_clear fX2_tell fX5_counts
  rw [dg_ok kWatch, dg_ok (kPart (by omega)), dg_ok kDots, dg_ok kDots, hdc.1, Option.bind_some, dg_ok kFau, dg_ok kFau, dlet_v, dlet_v, dlet_v, dlet_v, Option.bind_some, Option.bind_some, dg_ok (kPart (by omega)), Option.bind_some]
  have c4 : (d1 (d1 (d1 (d1 m 371 0 (-1)) 371 1 (-1)) 371 2 (-1)) 371 3 (-1)).1 (49 + 8 * i) 4 = Int32.ofInt n := by
    rw [zd1_ne (by omega), zd1_ne (by omega), zd1_ne (by omega), zd1_ne (by omega), (h.2 i hi).2.1, hn]
  rw [c4, dlet_v, zi_1]
  have hM7 : ∀ a, a < 171 ∨ 372 ≤ a → (d1 (d1 (d1 (d1 (d1 m 371 0 (-1)) 371 1 (-1)) 371 2 (-1)) 371 3 (-1)) 171 3 (Int32.ofInt ((n : Int) + 1))).1 a = m.1 a := fun a ha => by
    rw [zd1_ne (by omega), zd1_ne (by omega), zd1_ne (by omega), zd1_ne (by omega), zd1_ne (by omega)]
  have hM72 : (d1 (d1 (d1 (d1 (d1 m 371 0 (-1)) 371 1 (-1)) 371 2 (-1)) 371 3 (-1)) 171 3 (Int32.ofInt ((n : Int) + 1))).2 = m.2 := rfl
  have hM73 : (d1 (d1 (d1 (d1 (d1 m 371 0 (-1)) 371 1 (-1)) 371 2 (-1)) 371 3 (-1)) 171 3 (Int32.ofInt ((n : Int) + 1))).1 171 3 = Int32.ofInt ((n + 1 : Nat) : Int) := zd1_at
  have hM74 : ∀ k, k < 4 → (d1 (d1 (d1 (d1 (d1 m 371 0 (-1)) 371 1 (-1)) 371 2 (-1)) 371 3 (-1)) 171 3 (Int32.ofInt ((n : Int) + 1))).1 371 k = Int32.ofInt (-1) := fun k hk => by
    rw [zd1_ne (by decide)]
    match k, hk with
    | 0, _ => rw [zd1_nk (by decide), zd1_nk (by decide), zd1_nk (by decide), zd1_at]; rfl
    | 1, _ => rw [zd1_nk (by decide), zd1_nk (by decide), zd1_at]; rfl
    | 2, _ => rw [zd1_nk (by decide), zd1_at]; rfl
    | 3, _ => rw [zd1_at]; rfl
  generalize d1 (d1 (d1 (d1 (d1 m 371 0 (-1)) 371 1 (-1)) 371 2 (-1)) 371 3 (-1)) 171 3 (Int32.ofInt ((n : Int) + 1)) = M7 at *
  have L1 : ∃ M, dlp (fun q => dP2 q (fun v9 m10 => fX10_look_l25 171 (49 + 8 * i) (Int32.ofInt N) v9 m10)) dFl (0, M7) = some M ∧ zLk m N n (zXc (zX sx so go) co i) (zXc (zX sy so go) co i) (n + 1) none M := by
    obtain ⟨r, e, w1, w2, w3⟩ := dlp_inv (f := fun q => dP2 q (fun v9 m10 => fX10_look_l25 171 (49 + 8 * i) (Int32.ofInt N) v9 m10)) (Q := fun (r : dM) => r.2 = m.2 ∧ (∀ a, a < 173 ∨ 368 ≤ a → r.1 a = M7.1 a) ∧ ∀ c, c < n + 1 → ∀ d, d < N → r.1 (173 + 3 * c + 1) d = Int32.ofInt (zXc (zX sx so go) co i c d) ∧ r.1 (173 + 3 * c + 2) d = Int32.ofInt (zXc (zX sy so go) co i c d)) (fun k s => s.1 = Int32.ofInt (k : Int) ∧ s.2.2 = m.2 ∧ (∀ a, a < 173 ∨ 368 ≤ a → s.2.1 a = M7.1 a) ∧ ∀ c, c < k → ∀ d, d < N → s.2.1 (173 + 3 * c + 1) d = Int32.ofInt (zXc (zX sx so go) co i c d) ∧ s.2.1 (173 + 3 * c + 2) d = Int32.ofInt (zXc (zX sy so go) co i c d)) (n + 1)
      (fun k s hk hs' => by
        obtain ⟨v, Q⟩ := s
        obtain ⟨i1, i2, i3, i4⟩ := hs'
        have i1 : v = Int32.ofInt (k : Int) := i1
        have i2 : Q.2 = m.2 := i2
        have i3 : ∀ a, a < 173 ∨ 368 ≤ a → Q.1 a = M7.1 a := i3
        have i4 : ∀ c, c < k → ∀ d, d < N → Q.1 (173 + 3 * c + 1) d = Int32.ofInt (zXc (zX sx so go) co i c d) ∧ Q.1 (173 + 3 * c + 2) d = Int32.ofInt (zXc (zX sy so go) co i c d) := i4
        subst i1
        have hQ : zPc N P sx sy so co te lt go Q := h.to hP (fun a q1 q2 => by rw [i3 a (by omega), hM7 a (by omega)])
        refine Or.inl ⟨(Int32.ofInt ((k + 1 : Nat) : Int), zW2 Q (173 + 3 * k + 1) (173 + 3 * k + 2) 0 (zSt (zX sx so go) co i (k : Int)) (zSt (zX sy so go) co i (k : Int)) N), ?_, rfl, i2, fun a ha => ?_, fun c hc d hdN => ?_⟩
        · show fX10_look_l25 171 (49 + 8 * i) (Int32.ofInt N) (Int32.ofInt (k : Int)) Q = _
          unfold fX10_look_l25
          rw [i3 171 (by omega), hM73, if_neg (by rw [zi_le (by omega) (by omega) (by omega) (by omega)]; omega), fX10_standAt_ok (by omega), Option.bind_some, dg_ok (kSpW (by omega)).1, fX5_stand_ok hN hs hr hQ hi (kSpW (by omega)) (by omega) (by omega) (by omega), Option.bind_some, dlet_v, show (1 : Int32) = Int32.ofInt 1 from rfl, zi_add]
          rfl
        · show (zW2 Q _ _ 0 _ _ N).1 a = _
          rw [zW2_ne (by omega) (by omega)]; exact i3 a ha
        · show (zW2 Q _ _ 0 _ _ N).1 _ d = _ ∧ (zW2 Q _ _ 0 _ _ N).1 _ d = _
          by_cases w : c = k
          · subst w
            have e1 := zW2_a (m := Q) (a := 173 + 3 * c + 1) (b := 173 + 3 * c + 2) (o := 0) (f := zSt (zX sx so go) co i (c : Int)) (g := zSt (zX sy so go) co i (c : Int)) hdN
            have e2 := zW2_b (m := Q) (a := 173 + 3 * c + 1) (b := 173 + 3 * c + 2) (o := 0) (f := zSt (zX sx so go) co i (c : Int)) (g := zSt (zX sy so go) co i (c : Int)) (by omega) hdN
            rw [Nat.zero_add] at e1 e2
            exact ⟨e1, e2⟩
          · rw [zW2_ne (by omega) (by omega), zW2_ne (by omega) (by omega)]
            exact i4 c (by omega) d hdN)
      (fun s hs' => by
        obtain ⟨v, Q⟩ := s
        obtain ⟨i1, i2, i3, i4⟩ := hs'
        have i1 : v = Int32.ofInt ((n + 1 : Nat) : Int) := i1
        have i3 : ∀ a, a < 173 ∨ 368 ≤ a → Q.1 a = M7.1 a := i3
        subst i1
        refine ⟨Q, ?_, i2, i3, i4⟩
        show fX10_look_l25 171 (49 + 8 * i) (Int32.ofInt N) (Int32.ofInt ((n + 1 : Nat) : Int)) Q = _
        unfold fX10_look_l25
        rw [i3 171 (by omega), hM73, if_pos (Int32.le_refl _)]) (n + 1) 0 dFl (0, M7) (by omega) (by show _ < 100000; omega) ⟨rfl, hM72, fun a _ => rfl, fun c hc => by omega⟩
    refine ⟨r, e, w1, fun a ha => by rw [w2 a (by omega), hM7 a ha], fun c hc d hdN => w3 c (by omega) d hdN, by rw [w2 171 (by omega), hM73], fun k hk => by rw [w2 371 (by omega), hM74 k hk]; rfl⟩
  obtain ⟨M1, E1, z1⟩ := L1
  rw [E1, Option.bind_some]
  show ∃ M q, ((dlp (fun q => dP2 q (fun v25 m26 => fX10_look_l56 171 (49 + 8 * i) 1 (Int32.ofInt N) v25 m26)) dFl (0, M1)).bind _) = _ ∧ _
  have L2 : ∃ M E q, dlp (fun q => dP2 q (fun v25 m26 => fX10_look_l56 171 (49 + 8 * i) 1 (Int32.ofInt N) v25 m26)) dFl (0, M1) = some M ∧ zLk m N n (zXc (zX sx so go) co i) (zXc (zX sy so go) co i) E q M ∧ zPre (zFlt N (zMar kn il io) (zMo le (te i)) (zXc (zX sx so go) co i) (zXc (zX sy so go) co i)) n N E q := by
    obtain ⟨r, e, E', q', w1, w2⟩ := dlp_inv (f := fun q => dP2 q (fun v25 m26 => fX10_look_l56 171 (49 + 8 * i) 1 (Int32.ofInt N) v25 m26)) (Q := fun r => ∃ E' q', zLk m N n (zXc (zX sx so go) co i) (zXc (zX sy so go) co i) E' q' r ∧ zPre (zFlt N (zMar kn il io) (zMo le (te i)) (zXc (zX sx so go) co i) (zXc (zX sy so go) co i)) n N E' q') (fun k s => s.1 = Int32.ofInt (k : Int) ∧ ∃ E' q', zLk m N n (zXc (zX sx so go) co i) (zXc (zX sy so go) co i) E' q' s.2 ∧ zPre (zFlt N (zMar kn il io) (zMo le (te i)) (zXc (zX sx so go) co i) (zXc (zX sy so go) co i)) n k E' q') N
      (fun k s hk hs' => by
        obtain ⟨v, Q⟩ := s
        obtain ⟨i1, E1, q1, i2, i3⟩ := hs'
        have i1 : v = Int32.ofInt (k : Int) := i1
        have i2 : zLk m N n (zXc (zX sx so go) co i) (zXc (zX sy so go) co i) E1 q1 Q := i2
        subst i1
        refine Or.inl ?_
        show ∃ s', fX10_look_l56 171 (49 + 8 * i) 1 (Int32.ofInt N) (Int32.ofInt (k : Int)) Q = _ ∧ _
        unfold fX10_look_l56
        rw [if_neg (by rw [zi_le (by omega) (by omega) (by omega) (by omega)]; omega), fX1_marches_ok hd (zLk_dc i2 hdc) (by omega), Option.bind_some]
        cases hm : zMar kn il io k
        · rw [if_pos (show zB false = 0 from rfl), dlet_v, zi_1]
          refine ⟨_, rfl, rfl, E1, q1, i2, zPre_no i3 (by omega) (fun c c1 c2 y y1 y2 => ?_)⟩
          obtain rfl : y = k := by omega
          rw [zFlt_step (by omega), hm, Bool.and_false]; rfl
        · have t5 : Q.1 (49 + 8 * i) 5 = Int32.ofInt (te i) := by rw [i2.2.1 _ (by omega)]; exact (h.2 i hi).2.2.1
          unfold fX5_tempo
          rw [if_neg (show ¬ zB true = 0 by decide), dg_ok (kPart (by omega)), t5, Option.bind_some, fX1_stepSquare_ok hd (zLk_dc i2 hdc) (by omega) r4 r5, Option.bind_some]
          obtain ⟨M', E', q', w1, w2, w3⟩ := fX10_seekStep_ok hN (by omega) hx i2 i3 hk hm (hmo k hk).1 (hmo k hk).2
          rw [w1, Option.bind_some, dlet_v, zi_1]
          exact ⟨_, rfl, rfl, E', q', w2, w3⟩)
      (fun s hs' => by
        obtain ⟨v, Q⟩ := s
        obtain ⟨i1, E1, q1, i2, i3⟩ := hs'
        have i1 : v = Int32.ofInt (N : Int) := i1
        subst i1
        refine ⟨Q, ?_, E1, q1, i2, i3⟩
        show fX10_look_l56 171 (49 + 8 * i) 1 (Int32.ofInt N) (Int32.ofInt (N : Int)) Q = _
        unfold fX10_look_l56
        rw [if_pos (Int32.le_refl _)]) N 0 dFl (0, M1) (by omega) (by show _ < 100000; omega) ⟨rfl, n + 1, none, z1, rfl, fun c _ _ y hy => by omega⟩
    exact ⟨r, E', q', e, w1, w2⟩
  obtain ⟨M2, E2, q2, e2, z2, p2⟩ := L2
  rw [e2, Option.bind_some]
  show ∃ M q, ((fX10_seekPairs M2 171 1 1).bind _) = _ ∧ _
  have p2' := zPre_no p2 (show N ≤ 100 by omega) (fun c c1 c2 y y1 y2 => by
    rw [zFlt_step y2, decide_eq_false (by omega)]; rfl)
  obtain ⟨M3, E3, q3, e3, z3, p3⟩ := zPairs (B := 100) (p1 := 1) (seek := fun M a b => fX10_seekNear M 171 a b) hd hdc (show n ≤ 64 by omega) (Or.inl rfl) z2 p2' (fun M d e hM hde he hmd => by
      unfold fX10_seekPairs_l20
      rw [if_neg (by rw [zi_le (by omega) (by omega) (by omega) (by omega)]; omega), fX1_marches_ok hd hM (by omega), Option.bind_some, hmd, if_neg (show ¬ zB true = 0 by decide), if_pos rfl, fX1_marches_ok hd hM (by omega), Option.bind_some, Option.bind_some, zi_1]
      cases zMar kn il io e
      · rw [if_pos (show zB false = 0 from rfl), if_pos (show zB false = 0 from rfl), dlet_v, if_neg (by decide)]; rfl
      · rw [if_neg (show ¬ zB true = 0 by decide), if_pos rfl]; rfl)
    (fun M E q d e hM hP' hde he hmd hme => fX10_seekNear_ok hN (by omega) hx hM hP' hde he hmd hme)
  rw [e3, Option.bind_some]
  obtain ⟨M4, E4, q4, e4, z4, p4⟩ := zPairs (B := 200) (p1 := 2) (seek := fun M a b => fX10_seekCrossing M 171 a b) hd hdc (show n ≤ 64 by omega) (Or.inr rfl) z3 p3 (fun M d e hM hde he hmd => by
      unfold fX10_seekPairs_l20
      rw [if_neg (by rw [zi_le (by omega) (by omega) (by omega) (by omega)]; omega), fX1_marches_ok hd hM (by omega), Option.bind_some, hmd, if_neg (show ¬ zB true = 0 by decide), if_neg (by decide), fX1_marches_ok hd hM (by omega), Option.bind_some, zi_1]
      cases zMar kn il io e
      · rw [if_pos (show zB false = 0 from rfl), dlet_v, if_neg (by decide)]; rfl
      · rw [if_neg (show ¬ zB true = 0 by decide), if_pos rfl]; rfl)
    (fun M E q d e hM hP' hde he hmd hme => fX10_seekCrossing_ok hN (by omega) hx (fun d hdN => (hmo d hdN).2) hM hP' hde he hmd hme)
  rw [e4, Option.bind_some]
  exact ⟨M4, q4, rfl, zPre_end p4, z4.1, z4.2.1, z4.2.2.2.2⟩
