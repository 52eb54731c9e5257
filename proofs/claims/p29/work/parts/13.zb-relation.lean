def zB (b : Bool) : Int32 := if b then 1 else 0
def zDr (N : Nat) (le kn : Nat → Int) : Prop := 2 ≤ N ∧ N ≤ 10 ∧ (∀ d, d < 10 → 5 ≤ le d ∧ le d ≤ 40) ∧ ∀ a, a < 3 → -1 ≤ kn a ∧ kn a < 10
def zDc (N : Nat) (le kn : Nat → Int) (il io : Nat → Bool) (m : dM) : Prop := m.1 1 4 = Int32.ofInt N ∧ (∀ d, d < 10 → m.1 2 d = Int32.ofInt (le d) ∧ m.1 3 d = zB (il d)) ∧ ∀ a, a < 3 → m.1 4 a = Int32.ofInt (kn a) ∧ m.1 5 a = zB (io a)
def zSr (N S : Nat) (sx sy : Nat → Nat → Int) : Prop := S ≤ 12 ∧ ∀ s, s < S → ∀ p, p < N → 0 ≤ sx s p ∧ sx s p ≤ 1600 ∧ 0 ≤ sy s p ∧ sy s p ≤ 840
def zSc (N S : Nat) (sx sy : Nat → Nat → Int) (m : dM) : Prop := m.1 6 2 = Int32.ofInt S ∧ ∀ s, s < S → ∀ p, p < N → m.1 (8 + 3 * s + 1) p = Int32.ofInt (sx s p) ∧ m.1 (8 + 3 * s + 2) p = Int32.ofInt (sy s p)
/-- where the dot d stands at the end of the part i -/
def zX (sx : Nat → Nat → Int) (so : Nat → Nat) (go : Nat → Nat → Nat) (i d : Nat) : Int := sx (so i) (go i d)
def zSq (a b c d : Int) : Int := (a - c) * (a - c) + (b - d) * (b - d)
/-- the square of the way of the dot d to the place p, in the part i -/
def zW (sx sy : Nat → Nat → Int) (so : Nat → Nat) (go : Nat → Nat → Nat) (i d p : Nat) : Int := zSq (sx (so i) p) (sy (so i) p) (zX sx so go (i - 1) d) (zX sy so go (i - 1) d)
def zInj (N : Nat) (h : Nat → Nat) : Prop := (∀ d, d < N → h d < N) ∧ ∀ d e, d < N → e < N → h d = h e → d = e
def zSum (f : Nat → Int) : Nat → Int | 0 => 0 | n + 1 => zSum f n + f n
/-- what a pairing comes to: the squares first, then the places, the dot 0's first -/
def zCost (N : Nat) (w : Nat → Nat → Int) (h : Nat → Nat) : Int := zSum (fun d => 10000000000 * w d (h d) + 10 ^ (N - 1 - d) * (h d : Int)) N
def zBest (N : Nat) (w : Nat → Nat → Int) (g : Nat → Nat) : Prop := zInj N g ∧ ∀ h, zInj N h → (∀ d, d < N → h d = g d) ∨ zCost N w g < zCost N w h
/-- who goes where -/
def zGo (N : Nat) (sx sy : Nat → Nat → Int) (so : Nat → Nat) (lt : Nat → Bool) (go : Nat → Nat → Nat) (i : Nat) : Prop := if 0 < i ∧ lt i = true then zBest N (zW sx sy so go i) (go i) else ∀ d, d < N → go i d = d
def zPr (N S P : Nat) (sx sy : Nat → Nat → Int) (so : Nat → Nat) (co te : Nat → Int) (lt : Nat → Bool) (go : Nat → Nat → Nat) : Prop :=
  P ≤ 12 ∧ ∀ i, i < P → so i < S ∧ 1 ≤ co i ∧ co i ≤ 64 ∧ 60 ≤ te i ∧ te i ≤ 240 ∧ zGo N sx sy so lt go i ∧ ∀ d, d < N → go i d < N
def zPc (N P : Nat) (sx sy : Nat → Nat → Int) (so : Nat → Nat) (co te : Nat → Int) (lt : Nat → Bool) (go : Nat → Nat → Nat) (m : dM) : Prop :=
  m.1 47 3 = Int32.ofInt P ∧ ∀ i, i < P → m.1 (49 + 8 * i) 3 = Int32.ofInt (so i) ∧ m.1 (49 + 8 * i) 4 = Int32.ofInt (co i) ∧ m.1 (49 + 8 * i) 5 = Int32.ofInt (te i) ∧ m.1 (49 + 8 * i) 6 = zB (lt i) ∧
  ∀ d, d < N → m.1 (49 + 8 * i + 7) d = Int32.ofInt (go i d) ∧ m.1 (49 + 8 * i + 4 + 1) d = Int32.ofInt (zX sx so go i d) ∧ m.1 (49 + 8 * i + 4 + 2) d = Int32.ofInt (zX sy so go i d) ∧ m.1 (49 + 8 * i + 1 + 1) d = Int32.ofInt (zX sx so go (i - 1) d) ∧ m.1 (49 + 8 * i + 1 + 2) d = Int32.ofInt (zX sy so go (i - 1) d)
def zGr (N S pp : Nat) (px py : Nat → Nat → Int) : Prop := pp ≤ 12 ∧ (0 < pp → 0 < S) ∧ ∀ i, i < pp → ∀ d, d < N → 0 ≤ px i d ∧ px i d ≤ 1600 ∧ 0 ≤ py i d ∧ py i d ≤ 840
def zGc (N pp : Nat) (px py : Nat → Nat → Int) (m : dM) : Prop := m.1 394 2 = Int32.ofInt pp ∧ ∀ i, i < pp → ∀ d, d < N → m.1 (396 + 3 * i + 1) d = Int32.ofInt (px i d) ∧ m.1 (396 + 3 * i + 2) d = Int32.ofInt (py i d)
/-- what the page of the place x, y says -/
def zSay (x y : Int) : Nat → Int | 0 => (x + 40) / 80 | 1 => x - 80 * ((x + 40) / 80) | 2 => (y + 139) / 280 | _ => y - 280 * ((y + 139) / 280)
def zCr (lo hi : Int) (cap : Nat → Nat → Int) (pen : Nat → Int) : Prop := 0 ≤ lo ∧ lo ≤ hi ∧ hi ≤ 9999 ∧ ∀ b, b < 6 → 0 ≤ pen b ∧ pen b ≤ 1000 ∧ ∀ c, c < 4 → 0 ≤ cap b c ∧ cap b c ≤ 1000
def zCc (lo hi : Int) (cap : Nat → Nat → Int) (pen : Nat → Int) (m : dM) : Prop := m.1 435 2 = Int32.ofInt lo ∧ m.1 435 3 = Int32.ofInt hi ∧ ∀ b, b < 6 → m.1 443 b = Int32.ofInt (pen b) ∧ ∀ c, c < 4 → m.1 (437 + b) c = Int32.ofInt (cap b c)
theorem zDc.to {N : Nat} {le kn : Nat → Int} {il io : Nat → Bool} {m m' : dM} (h : zDc N le kn il io m) (h1 : ∀ a, 1 ≤ a → a ≤ 5 → m'.1 a = m.1 a) : zDc N le kn il io m' := by
  unfold zDc at *
  rw [h1 1 (by omega) (by omega), h1 2 (by omega) (by omega), h1 3 (by omega) (by omega), h1 4 (by omega) (by omega), h1 5 (by omega) (by omega)]
  exact h
theorem zSc.to {N S : Nat} {sx sy : Nat → Nat → Int} {m m' : dM} (h : zSc N S sx sy m) (hS : S ≤ 12) (h1 : ∀ a, 6 ≤ a → a < 44 → m'.1 a = m.1 a) : zSc N S sx sy m' := by
  unfold zSc at *
  obtain ⟨a2, a4⟩ := h
  rw [h1 6 (by omega) (by omega)]
  refine ⟨a2, fun s hs p hp => ?_⟩
  rw [h1 (8 + 3 * s + 1) (by omega) (by omega), h1 (8 + 3 * s + 2) (by omega) (by omega)]
  exact a4 s hs p hp
theorem zPc.to {N P : Nat} {sx sy : Nat → Nat → Int} {so : Nat → Nat} {co te : Nat → Int} {lt : Nat → Bool} {go : Nat → Nat → Nat} {m m' : dM} (h : zPc N P sx sy so co te lt go m) (hP : P ≤ 12) (h1 : ∀ a, 47 ≤ a → a < 145 → m'.1 a = m.1 a) : zPc N P sx sy so co te lt go m' := by
  unfold zPc at *
  obtain ⟨a2, a4⟩ := h
  rw [h1 47 (by omega) (by omega)]
  refine ⟨a2, fun i hi => ?_⟩
  rw [h1 (49 + 8 * i) (by omega) (by omega), h1 (49 + 8 * i + 7) (by omega) (by omega), h1 (49 + 8 * i + 4 + 1) (by omega) (by omega), h1 (49 + 8 * i + 4 + 2) (by omega) (by omega), h1 (49 + 8 * i + 1 + 1) (by omega) (by omega), h1 (49 + 8 * i + 1 + 2) (by omega) (by omega)]
  exact a4 i hi
theorem zGc.to {N pp : Nat} {px py : Nat → Nat → Int} {m m' : dM} (h : zGc N pp px py m) (hp : pp ≤ 12) (h1 : ∀ a, 394 ≤ a → a < 432 → m'.1 a = m.1 a) : zGc N pp px py m' := by
  unfold zGc at *
  obtain ⟨a3, a5⟩ := h
  rw [h1 394 (by omega) (by omega)]
  refine ⟨a3, fun i hi d hd => ?_⟩
  rw [h1 (396 + 3 * i + 1) (by omega) (by omega), h1 (396 + 3 * i + 2) (by omega) (by omega)]
  exact a5 i hi d hd
theorem zCc.to {lo hi : Int} {cap : Nat → Nat → Int} {pen : Nat → Int} {m m' : dM} (h : zCc lo hi cap pen m) (h1 : ∀ a, 435 ≤ a → a < 444 → m'.1 a = m.1 a) : zCc lo hi cap pen m' := by
  unfold zCc at *
  rw [h1 435 (by omega) (by omega), h1 443 (by omega) (by omega)]
  refine ⟨h.1, h.2.1, fun b hb => ?_⟩
  rw [h1 (437 + b) (by omega) (by omega)]
  exact h.2.2 b hb
theorem zd1_ne {m : dM} {i k a : Nat} {v : Int32} (h : a ≠ i) : (d1 m i k v).1 a = m.1 a := by funext j; simp [d1, h]
theorem zd1_nk {m : dM} {i k a j : Nat} {v : Int32} (h : j ≠ k) : (d1 m i k v).1 a j = m.1 a j := by simp [d1, h]
theorem zd1_at {m : dM} {i k : Nat} {v : Int32} : (d1 m i k v).1 i k = v := by simp [d1]
theorem zd1_2 {m : dM} {i k : Nat} {v : Int32} : (d1 m i k v).2 = m.2 := rfl
theorem zd2_1 {m : dM} {i k : Nat} {v : Int64} : (d2 m i k v).1 = m.1 := rfl
theorem zd2_at {m : dM} {i k : Nat} {v : Int64} : (d2 m i k v).2 i k = v := by simp [d2]
theorem zd2_ne {m : dM} {i k a : Nat} {v : Int64} (h : a ≠ i) : (d2 m i k v).2 a = m.2 a := by funext j; simp [d2, h]
theorem zd2_nk {m : dM} {i k a j : Nat} {v : Int64} (h : j ≠ k) : (d2 m i k v).2 a j = m.2 a j := by simp [d2, h]
theorem zn10 : ((1 : Int32) = 0) = False := by decide
theorem zn20 : ((2 : Int32) = 0) = False := by decide
theorem zn30 : ((3 : Int32) = 0) = False := by decide
theorem zk13 : ((1 : Nat) = 3) = False := by decide
theorem zk31 : ((3 : Nat) = 1) = False := by decide
theorem zk21 : ((2 : Nat) = 1) = False := by decide
theorem zk23 : ((2 : Nat) = 3) = False := by decide
theorem zk12 : ((1 : Nat) = 2) = False := by decide
theorem zk32 : ((3 : Nat) = 2) = False := by decide
theorem kF : dkg 0 12 = true := by decide +kernel
theorem kDots : dkg 1 2 = true := by decide +kernel
theorem kSets : dkg 6 8 = true := by decide +kernel
theorem kShow : dkg 47 9 = true := by decide +kernel
theorem kPair : dkg 153 5 = true := by decide +kernel
theorem kWatch : dkg 171 11 = true := by decide +kernel
theorem kWf : dkg 370 3 = true ∨ True := Or.inr trivial
theorem kRec : dkg 372 7 = true := by decide +kernel
theorem kPages : dkg 394 4 = true := by decide +kernel
theorem kCon : dkg 435 1 = true := by decide +kernel
theorem zi_lit (n : Nat) : (@OfNat.ofNat Int32 n _) = Int32.ofInt (@OfNat.ofNat Int n _) := (Int32.ofInt_eq_ofNat).symm
theorem zi_of (x : Int32) : ∃ z : Int, -2147483648 ≤ z ∧ z < 2147483648 ∧ x = Int32.ofInt z := ⟨x.toInt, Int32.le_toInt x, Int32.toInt_lt x, (Int32.ofInt_toInt x).symm⟩
theorem fX11_needRange_ok (m : dM) {a b c : Int} (h1 : -2147483648 ≤ a) (h2 : a < 2147483648) (h3 : -2147483648 ≤ b) (h4 : b < 2147483648) (h5 : -2147483648 ≤ c) (h6 : c < 2147483648) : fX11_needRange m (Int32.ofInt a) (Int32.ofInt b) (Int32.ofInt c) = if b ≤ a ∧ a ≤ c then some (.inr m) else some (.inl (1, m)) := by
  unfold fX11_needRange
  rw [fX11_isWithin_ok m h1 h2 h3 h4 h5 h6, Option.bind_some]
  by_cases q : b ≤ a ∧ a ≤ c
  · rw [if_pos q, if_pos q]; rfl
  · rw [if_neg q, if_neg q]; rfl
theorem fX11_needIndex_ok (m : dM) {a b : Int} (h1 : -2147483648 ≤ a) (h2 : a < 2147483648) (h3 : -2147483647 ≤ b) (h4 : b < 2147483648) : fX11_needIndex m (Int32.ofInt a) (Int32.ofInt b) = if 0 ≤ a ∧ a < b then some (.inr m) else some (.inl (3, m)) := by
  unfold fX11_needIndex
  simp only [zi_lit, zi_sub]
  rw [fX11_isWithin_ok m h1 h2 (by omega) (by omega) (by omega) (by omega), Option.bind_some]
  by_cases q : 0 ≤ a ∧ a < b
  · rw [if_pos (show 0 ≤ a ∧ a ≤ b - 1 by omega), if_pos q]; rfl
  · rw [if_neg (show ¬ (0 ≤ a ∧ a ≤ b - 1) by omega), if_neg q]; rfl
theorem fX11_withRests_ok (m : dM) {a b c : Int} (h1 : 1 ≤ a) (h2 : a ≤ 9999) (h3 : 1 ≤ b) (h4 : b ≤ 100) : fX11_withRests m (Int32.ofInt a) (Int32.ofInt b) (Int32.ofInt c) = some (Int32.ofInt (a + c * ((a - 1) / b))) := by
  unfold fX11_withRests
  simp only [zi_lit, zi_sub]
  rw [fX11_downBy_ok m (by omega) (by omega) (by omega) (by omega), Option.bind_some]
  simp only [zi_add, zi_mul]
/-- rehearse -/
def zRe (a b : Int) : Int := if b < 28 then a + 10 * ((a - 1) / 50) else if b < 32 then a + 10 * ((a - 1) / 30) else if b < 36 then a + 20 * ((a - 1) / 20) else -1
theorem fX11_rehearse_ok (m : dM) {a b : Int} (h1 : -2147483648 ≤ a) (h2 : a < 2147483648) (h3 : -2147483648 ≤ b) (h4 : b < 2147483648) : fX11_rehearse m 0 (Int32.ofInt a) (Int32.ofInt b) = if (1 ≤ a ∧ a ≤ 9999) ∧ 0 ≤ b ∧ b ≤ 60 then some (.inr (Int32.ofInt (zRe a b), m)) else some (.inl (1, m)) := by
  unfold fX11_rehearse zRe
  rw [dg_ok kF]
  by_cases q1 : 1 ≤ a ∧ a ≤ 9999
  · by_cases q2 : 0 ≤ b ∧ b ≤ 60
    · rcases (show b < 28 ∨ (28 ≤ b ∧ b < 32) ∨ (32 ≤ b ∧ b < 36) ∨ 36 ≤ b by omega) with c | c | c | c <;> simp (disch := omega) only [zi_lit, if_pos, if_neg, if_true, if_false, eq_self, Option.bind_some, dlet, dS, dP1, dP2, dP3, zi_le, zi_lt, zi_eq, zi_neg, zi_sub, zi_add, zi_mul, fX11_needRange_ok, fX11_withRests_ok]
    · simp (disch := omega) only [zi_lit, if_pos, if_neg, if_true, if_false, eq_self, Option.bind_some, dlet, dS, dP1, dP2, dP3, zi_le, zi_lt, zi_eq, zi_neg, zi_sub, zi_add, zi_mul, fX11_needRange_ok]
  · simp (disch := omega) only [zi_lit, if_pos, if_neg, if_true, if_false, eq_self, Option.bind_some, dlet, dS, dP1, dP2, dP3, zi_le, zi_lt, zi_eq, zi_neg, zi_sub, zi_add, zi_mul, fX11_needRange_ok]
theorem zcmp (x : Int64) : lg_cmp x x = 0 := by unfold lg_cmp; simp
theorem zcl0 : Int32.toNatClampNeg 0 = 0 := by decide
