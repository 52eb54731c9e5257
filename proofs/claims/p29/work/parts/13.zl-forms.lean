/-- f and g, written n times from the place o on -/
def zW2 (m : dM) (a b o : Nat) (f g : Nat → Int) (n : Nat) : dM := (fun x j => if x = a ∧ o ≤ j ∧ j < o + n then Int32.ofInt (f (j - o)) else if x = b ∧ o ≤ j ∧ j < o + n then Int32.ofInt (g (j - o)) else m.1 x j, m.2)
theorem zW2_0 {m : dM} {a b o : Nat} {f g : Nat → Int} : zW2 m a b o f g 0 = m := by
  refine Prod.ext ?_ rfl
  funext x j
  show (if x = a ∧ o ≤ j ∧ j < o + 0 then _ else if x = b ∧ o ≤ j ∧ j < o + 0 then _ else m.1 x j) = _
  rw [if_neg (by omega), if_neg (by omega)]
theorem zW2_s {m : dM} {a b o n : Nat} {f g : Nat → Int} (hab : a ≠ b) : d1 (d1 (zW2 m a b o f g n) a (o + n) (Int32.ofInt (f n))) b (o + n) (Int32.ofInt (g n)) = zW2 m a b o f g (n + 1) := by
  refine Prod.ext ?_ rfl
  funext x j
  show (if x = b ∧ j = o + n then Int32.ofInt (g n) else if x = a ∧ j = o + n then Int32.ofInt (f n) else if x = a ∧ o ≤ j ∧ j < o + n then Int32.ofInt (f (j - o)) else if x = b ∧ o ≤ j ∧ j < o + n then Int32.ofInt (g (j - o)) else m.1 x j) = if x = a ∧ o ≤ j ∧ j < o + (n + 1) then Int32.ofInt (f (j - o)) else if x = b ∧ o ≤ j ∧ j < o + (n + 1) then Int32.ofInt (g (j - o)) else m.1 x j
  by_cases c : j = o + n
  · subst c
    rw [show o + n - o = n by omega]
    by_cases c1 : x = b
    · subst c1
      rw [if_pos ⟨rfl, rfl⟩, if_neg (fun z => hab z.1.symm), if_pos (by omega)]
    · rw [if_neg (fun z => c1 z.1)]
      by_cases c2 : x = a
      · subst c2
        rw [if_pos ⟨rfl, rfl⟩, if_pos (by omega)]
      · rw [if_neg (fun z => c2 z.1), if_neg (fun z => c2 z.1), if_neg (fun z => c1 z.1), if_neg (fun z => c2 z.1), if_neg (fun z => c1 z.1)]
  · rw [if_neg (fun z => c z.2), if_neg (fun z => c z.2)]
    have e : (j < o + (n + 1)) = (j < o + n) := propext (by omega)
    simp only [e]
theorem zW2_ne {m : dM} {a b o n x : Nat} {f g : Nat → Int} (h1 : x ≠ a) (h2 : x ≠ b) : (zW2 m a b o f g n).1 x = m.1 x := by
  funext j
  show (if x = a ∧ o ≤ j ∧ j < o + n then _ else if x = b ∧ o ≤ j ∧ j < o + n then _ else m.1 x j) = _
  rw [if_neg (fun z => h1 z.1), if_neg (fun z => h2 z.1)]
theorem zW2_a {m : dM} {a b o n j : Nat} {f g : Nat → Int} (h : j < n) : (zW2 m a b o f g n).1 a (o + j) = Int32.ofInt (f j) := by
  show (if a = a ∧ o ≤ o + j ∧ o + j < o + n then Int32.ofInt (f (o + j - o)) else _) = _
  rw [if_pos (by omega), show o + j - o = j by omega]
theorem zW2_b {m : dM} {a b o n j : Nat} {f g : Nat → Int} (hab : a ≠ b) (h : j < n) : (zW2 m a b o f g n).1 b (o + j) = Int32.ofInt (g j) := by
  show (if b = a ∧ o ≤ o + j ∧ o + j < o + n then _ else if b = b ∧ o ≤ o + j ∧ o + j < o + n then Int32.ofInt (g (o + j - o)) else _) = _
  rw [if_neg (by omega), if_pos (by omega), show o + j - o = j by omega]
theorem zW2_out {m : dM} {a b o n j x : Nat} {f g : Nat → Int} (h : j < o ∨ o + n ≤ j) : (zW2 m a b o f g n).1 x j = m.1 x j := by
  show (if x = a ∧ o ≤ j ∧ j < o + n then _ else if x = b ∧ o ≤ j ∧ j < o + n then _ else m.1 x j) = _
  rw [if_neg (by omega), if_neg (by omega)]
theorem zW2_2 {m : dM} {a b o n : Nat} {f g : Nat → Int} : (zW2 m a b o f g n).2 = m.2 := rfl
def zFd (x y : Int) : Bool := decide (0 ≤ x ∧ x ≤ 1600 ∧ 0 ≤ y ∧ y ≤ 840)
def zAll (f g : Nat → Int) : Nat → Bool | 0 => true | n + 1 => zAll f g n && zFd (f n) (g n)
theorem zAll_all {f g : Nat → Int} : ∀ {n : Nat}, zAll f g n = true → ∀ j, j < n → zFd (f j) (g j) = true
  | 0, _, j, hj => by omega
  | n + 1, h, j, hj => by
    have h : (zAll f g n && zFd (f n) (g n)) = true := h
    rw [Bool.and_eq_true] at h
    by_cases c : j = n
    · subst c; exact h.2
    · exact zAll_all h.1 j (by omega)
theorem zAll_no {f g : Nat → Int} : ∀ {n j : Nat}, j < n → zFd (f j) (g j) = false → zAll f g n = false
  | 0, j, hj, _ => by omega
  | n + 1, j, hj, h => by
    show (zAll f g n && zFd (f n) (g n)) = false
    by_cases c : j = n
    · subst c; rw [h, Bool.and_false]
    · rw [zAll_no (show j < n by omega) h, Bool.false_and]
theorem fX11_isOnField_ok (m : dM) {x y : Int} (x1 : -2147483648 ≤ x) (x2 : x < 2147483648) (y1 : -2147483648 ≤ y) (y2 : y < 2147483648) : fX11_isOnField m (Int32.ofInt x) (Int32.ofInt y) = some (zB (zFd x y)) := by
  unfold fX11_isOnField zFd
  rw [show fX11_isWithin m (Int32.ofInt x) 0 1600 = _ from fX11_isWithin_ok m (b := 0) (c := 1600) x1 x2 (by omega) (by omega) (by omega) (by omega), show fX11_isWithin m (Int32.ofInt y) 0 840 = _ from fX11_isWithin_ok m (b := 0) (c := 840) y1 y2 (by omega) (by omega) (by omega) (by omega), Option.bind_some, Option.bind_some]
  by_cases c1 : 0 ≤ x ∧ x ≤ 1600
  · rw [if_pos c1, if_neg z10]
    by_cases c2 : 0 ≤ y ∧ y ≤ 840
    · rw [if_pos c2, if_neg z10, decide_eq_true (by omega)]; rfl
    · rw [if_neg c2, if_pos rfl, decide_eq_false (by omega)]; rfl
  · rw [if_neg c1, if_pos rfl, decide_eq_false (by omega)]; rfl
theorem kSp44 : zSp 44 := by unfold zSp; decide +kernel
theorem kSpS {s : Nat} (h : s < 12) : zSp (8 + 3 * s) := by
  have : ∀ s : Fin 12, dkg (8 + 3 * s.val) 10 = true ∧ dL (8 + 3 * s.val + 1) = 10 ∧ dL (8 + 3 * s.val + 2) = 10 ∧ dK (8 + 3 * s.val + 1) = 20 ∧ dK (8 + 3 * s.val + 2) = 20 := by decide +kernel
  exact this ⟨s, h⟩
/-- what is drafted: it stays in an int where its first is on the field -/
def zBd (f g : Nat → Int) (N : Nat) : Prop := (-2147483648 ≤ f 0 ∧ f 0 < 2147483648 ∧ -2147483648 ≤ g 0 ∧ g 0 < 2147483648) ∧ (zFd (f 0) (g 0) = true → ∀ j, j < N → -2147483648 ≤ f j ∧ f j < 2147483648 ∧ -2147483648 ≤ g j ∧ g j < 2147483648)
theorem fX7_isDraftOnField_ok {N : Nat} {f g : Nat → Int} {m : dM} (hN : N ≤ 10) (hb : zBd f g N) (h : ∀ j, j < N → m.1 45 j = Int32.ofInt (f j) ∧ m.1 46 j = Int32.ofInt (g j)) : fX7_isDraftOnField m 6 (Int32.ofInt N) = some (zB (zAll f g N)) := by
  unfold fX7_isDraftOnField
  rw [dg_ok kSets]
  obtain ⟨r, e, hq⟩ := dlp_inv (f := fun v2 => fX7_isDraftOnField_l2 m (Int32.ofInt N) v2) (Q := fun r => (r = .inl () ∧ zAll f g N = false) ∨ (r = .inr () ∧ zAll f g N = true)) (fun k s => s = Int32.ofInt (k : Int) ∧ zAll f g k = true) N
    (fun k s hk e => by
      obtain ⟨rfl, e⟩ := e
      have bd : -2147483648 ≤ f k ∧ f k < 2147483648 ∧ -2147483648 ≤ g k ∧ g k < 2147483648 := by
        rcases Nat.eq_zero_or_pos k with q | q
        · subst q; exact hb.1
        · exact hb.2 (zAll_all e 0 q) k hk
      show (∃ s', fX7_isDraftOnField_l2 m (Int32.ofInt N) (Int32.ofInt (k : Int)) = _ ∧ _) ∨ ∃ r, fX7_isDraftOnField_l2 m (Int32.ofInt N) (Int32.ofInt (k : Int)) = _ ∧ _
      unfold fX7_isDraftOnField_l2
      rw [if_neg (by rw [zi_le (by omega) (by omega) (by omega) (by omega)]; omega), fX9_x_ok kSp44 (by omega), Option.bind_some, fX9_y_ok kSp44 (by omega), Option.bind_some, show m.1 (44 + 1) k = Int32.ofInt (f k) from (h k hk).1, show m.1 (44 + 2) k = Int32.ofInt (g k) from (h k hk).2, fX11_isOnField_ok m bd.1 bd.2.1 bd.2.2.1 bd.2.2.2, Option.bind_some]
      cases c : zFd (f k) (g k)
      · rw [if_pos (show zB false = 0 from rfl)]
        exact Or.inr ⟨_, rfl, Or.inl ⟨rfl, zAll_no hk c⟩⟩
      · rw [if_neg (show ¬ zB true = 0 by decide), dlet_v, show (1 : Int32) = Int32.ofInt 1 from rfl, zi_add]
        refine Or.inl ⟨_, rfl, rfl, ?_⟩
        show (zAll f g k && zFd (f k) (g k)) = true
        rw [e, c]; rfl)
    (fun s e => by
      obtain ⟨rfl, e⟩ := e
      refine ⟨.inr (), ?_, Or.inr ⟨rfl, e⟩⟩
      show fX7_isDraftOnField_l2 m (Int32.ofInt N) (Int32.ofInt (N : Int)) = _
      unfold fX7_isDraftOnField_l2
      rw [if_pos (Int32.le_refl _)]) N 0 dFl 0 (by omega) (by show N < 100000; omega) ⟨rfl, rfl⟩
  rw [e, Option.bind_some]
  rcases hq with ⟨rfl, q⟩ | ⟨rfl, q⟩
  · rw [q]; rfl
  · rw [q]; rfl
theorem fX7_keepDraft_ok {S : Nat} {m : dM} (hS : S < 12) (h : m.1 6 2 = Int32.ofInt S) : fX7_keepDraft m 6 = some (Int32.ofInt S, d1 (zCp m (8 + 3 * S) 44 10) 6 2 (Int32.ofInt (S + 1))) := by
  unfold fX7_keepDraft
  rw [dg_ok kSets, h, dlet_v, if_neg (by rw [show (12 : Int32) = Int32.ofInt 12 from rfl, zi_le (by omega) (by omega) (by omega) (by omega)]; omega)]
  have e : fX7_numbered m 6 (Int32.ofInt S) = some (8 + 3 * S) := by
    unfold fX7_numbered
    rw [dg_ok kSets, show fX11_isWithin m (Int32.ofInt S) 0 11 = _ from fX11_isWithin_ok m (b := 0) (c := 11) (by omega) (by omega) (by omega) (by omega) (by omega) (by omega), Option.bind_some, if_pos (show (0 : Int) ≤ S ∧ (S : Int) ≤ 11 by omega), if_neg z10, show dL 7 = 12 by decide +kernel, dg_ok (dIx_nat hS (by decide)), zi_cn (by omega)]
    have k := (kSpS hS).1
    rw [show 7 + 1 + 3 * S = 8 + 3 * S by omega, dg_ok k, dg_ok (dIx_nat hS (by decide)), dg_ok k]
  rw [e, Option.bind_some, dg_ok (kSpS hS).1, fX9_copy_ok (kSpS hS) kSp44, Option.bind_some, dlet_v, show (1 : Int32) = Int32.ofInt 1 from rfl, zi_add]
theorem fX11_keepDraft_ok {N S : Nat} {f g : Nat → Int} {m : dM} (hN : N ≤ 10) (hS : S ≤ 12) (hb : zBd f g N) (h : ∀ j, j < N → m.1 45 j = Int32.ofInt (f j) ∧ m.1 46 j = Int32.ofInt (g j)) (h1 : m.1 1 4 = Int32.ofInt N) (h2 : m.1 6 2 = Int32.ofInt S) : fX11_keepDraft m 0 = if zAll f g N = true then if S < 12 then some (.inr (Int32.ofInt S, d1 (zCp m (8 + 3 * S) 44 10) 6 2 (Int32.ofInt (S + 1)))) else some (.inl (2, m)) else some (.inl (1, m)) := by
  unfold fX11_keepDraft fX1_number
  rw [dg_ok kF, dg_ok kDots, h1, Option.bind_some, fX7_isDraftOnField_ok hN hb h, Option.bind_some]
  cases zAll f g N
  · rw [if_pos (show zB false = 0 from rfl), if_neg (by decide)]
  · rw [if_neg (show ¬ zB true = 0 by decide), if_pos rfl]
    unfold fX7_number
    rw [dg_ok kSets, h2, Option.bind_some, show (12 : Int32) = Int32.ofInt 12 from rfl]
    by_cases c : S < 12
    · rw [if_pos (by rw [zi_lt (by omega) (by omega) (by omega) (by omega)]; omega), if_pos c, fX7_keepDraft_ok c h2, Option.bind_some]; rfl
    · rw [if_neg (by rw [zi_lt (by omega) (by omega) (by omega) (by omega)]; omega), if_neg c]
def zLn (a b : Int) (N : Nat) : Nat → Int := fun j => a + j * (b - a) / (N - 1)
def zKx (x f w : Int) : Nat → Int := fun j => x + w * (j % f)
def zKy (y f w : Int) : Nat → Int := fun j => y + w * (j / f)
def zVx (x w : Int) : Nat → Int := fun j => x + if (j : Int) % 2 = 1 then -w * ((j + 1) / 2) else w * ((j + 1) / 2)
def zVy (y w : Int) : Nat → Int := fun j => y + w * ((j + 1) / 2)
theorem zFd_in {x y : Int} (h : zFd x y = true) : 0 ≤ x ∧ x ≤ 1600 ∧ 0 ≤ y ∧ y ≤ 840 := of_decide_eq_true h
theorem fX7_draftLine_ok {N : Nat} {a b c d : Int} {m : dM} (hN : 2 ≤ N) (hN' : N ≤ 10) (h1 : zFd a b = true) (h2 : zFd c d = true) : fX7_draftLine m 6 (Int32.ofInt a) (Int32.ofInt b) (Int32.ofInt c) (Int32.ofInt d) (Int32.ofInt N) = some (zW2 m 45 46 0 (zLn a c N) (zLn b d N) N) := by
  obtain ⟨a1, a2, b1, b2⟩ := zFd_in h1
  obtain ⟨c1, c2, d1', d2'⟩ := zFd_in h2
  unfold fX7_draftLine
  rw [dg_ok kSets]
  have e := dlp_for (f := fun q => dP2 q (fun v2 m3 => fX7_draftLine_l3 (Int32.ofInt a) (Int32.ofInt b) (Int32.ofInt c) (Int32.ofInt d) (Int32.ofInt N) v2 m3)) (r := zW2 m 45 46 0 (zLn a c N) (zLn b d N) N) (fun k => (Int32.ofInt (k : Int), zW2 m 45 46 0 (zLn a c N) (zLn b d N) k)) N 0 N dFl (by omega) (by show N < 100000; omega) (fun k _ hk => by
    show fX7_draftLine_l3 (Int32.ofInt a) (Int32.ofInt b) (Int32.ofInt c) (Int32.ofInt d) (Int32.ofInt N) (Int32.ofInt (k : Int)) (zW2 m 45 46 0 (zLn a c N) (zLn b d N) k) = some (.inl (Int32.ofInt ((k + 1 : Nat) : Int), zW2 m 45 46 0 (zLn a c N) (zLn b d N) (k + 1)))
    unfold fX7_draftLine_l3
    have q1 := zmul_bd (c := (k : Int)) (e := c - a) (n := 10) (M := 1600) (by omega) (by omega) (by omega) (by omega) (by omega)
    have q2 := zmul_bd (c := (k : Int)) (e := d - b) (n := 10) (M := 1600) (by omega) (by omega) (by omega) (by omega) (by omega)
    rw [if_neg (by rw [zi_le (by omega) (by omega) (by omega) (by omega)]; omega), show (1 : Int32) = Int32.ofInt 1 from rfl, zi_sub, zi_mul, zi_sub, zi_sub, zi_mul, fX11_downBy_ok _ (by omega) (by omega) (by omega) (by omega), Option.bind_some, fX11_downBy_ok _ (by omega) (by omega) (by omega) (by omega), Option.bind_some, zi_add, zi_add, fX9_put_ok kSp44 (by omega), Option.bind_some, dlet_v, zi_add, ← zW2_s (by decide), Nat.zero_add]
    rfl) (by
    show fX7_draftLine_l3 (Int32.ofInt a) (Int32.ofInt b) (Int32.ofInt c) (Int32.ofInt d) (Int32.ofInt N) (Int32.ofInt (N : Int)) _ = _
    unfold fX7_draftLine_l3
    rw [if_pos (Int32.le_refl _)])
  rw [show ((0 : Int32), m) = (Int32.ofInt ((0 : Nat) : Int), zW2 m 45 46 0 (zLn a c N) (zLn b d N) 0) by rw [zW2_0]; rfl, e]
  rfl
theorem fX7_draftBlock_ok {N : Nat} {x y f w : Int} {m : dM} (hN : 2 ≤ N) (hN' : N ≤ 10) (h1 : 1 ≤ f) (h2 : f ≤ 10) : fX7_draftBlock m 6 (Int32.ofInt x) (Int32.ofInt y) (Int32.ofInt f) (Int32.ofInt w) (Int32.ofInt N) = some (zW2 m 45 46 0 (zKx x f w) (zKy y f w) N) := by
  unfold fX7_draftBlock
  rw [dg_ok kSets]
  have e := dlp_for (f := fun q => dP2 q (fun v2 m3 => fX7_draftBlock_l3 (Int32.ofInt x) (Int32.ofInt y) (Int32.ofInt f) (Int32.ofInt w) (Int32.ofInt N) v2 m3)) (r := zW2 m 45 46 0 (zKx x f w) (zKy y f w) N) (fun k => (Int32.ofInt (k : Int), zW2 m 45 46 0 (zKx x f w) (zKy y f w) k)) N 0 N dFl (by omega) (by show N < 100000; omega) (fun k _ hk => by
    show fX7_draftBlock_l3 (Int32.ofInt x) (Int32.ofInt y) (Int32.ofInt f) (Int32.ofInt w) (Int32.ofInt N) (Int32.ofInt (k : Int)) (zW2 m 45 46 0 (zKx x f w) (zKy y f w) k) = some (.inl (Int32.ofInt ((k + 1 : Nat) : Int), zW2 m 45 46 0 (zKx x f w) (zKy y f w) (k + 1)))
    unfold fX7_draftBlock_l3
    rw [if_neg (by rw [zi_le (by omega) (by omega) (by omega) (by omega)]; omega), fX11_restBy_ok _ (by omega) (by omega) (by omega) (by omega), Option.bind_some, fX11_downBy_ok _ (by omega) (by omega) (by omega) (by omega), Option.bind_some, zi_mul, zi_add, zi_mul, zi_add, fX9_put_ok kSp44 (by omega), Option.bind_some, dlet_v, show (1 : Int32) = Int32.ofInt 1 from rfl, zi_add, ← zW2_s (by decide), Nat.zero_add]
    rfl) (by
    show fX7_draftBlock_l3 (Int32.ofInt x) (Int32.ofInt y) (Int32.ofInt f) (Int32.ofInt w) (Int32.ofInt N) (Int32.ofInt (N : Int)) _ = _
    unfold fX7_draftBlock_l3
    rw [if_pos (Int32.le_refl _)])
  rw [show ((0 : Int32), m) = (Int32.ofInt ((0 : Nat) : Int), zW2 m 45 46 0 (zKx x f w) (zKy y f w) 0) by rw [zW2_0]; rfl, e]
  rfl
theorem fX7_draftWedge_ok {N : Nat} {x y w : Int} {m : dM} (hN : 2 ≤ N) (hN' : N ≤ 10) : fX7_draftWedge m 6 (Int32.ofInt x) (Int32.ofInt y) (Int32.ofInt w) (Int32.ofInt N) = some (zW2 m 45 46 0 (zVx x w) (zVy y w) N) := by
  unfold fX7_draftWedge
  rw [dg_ok kSets]
  have e := dlp_for (f := fun q => dP2 q (fun v2 m3 => fX7_draftWedge_l3 (Int32.ofInt x) (Int32.ofInt y) (Int32.ofInt w) (Int32.ofInt N) v2 m3)) (r := zW2 m 45 46 0 (zVx x w) (zVy y w) N) (fun k => (Int32.ofInt (k : Int), zW2 m 45 46 0 (zVx x w) (zVy y w) k)) N 0 N dFl (by omega) (by show N < 100000; omega) (fun k _ hk => by
    show fX7_draftWedge_l3 (Int32.ofInt x) (Int32.ofInt y) (Int32.ofInt w) (Int32.ofInt N) (Int32.ofInt (k : Int)) (zW2 m 45 46 0 (zVx x w) (zVy y w) k) = some (.inl (Int32.ofInt ((k + 1 : Nat) : Int), zW2 m 45 46 0 (zVx x w) (zVy y w) (k + 1)))
    unfold fX7_draftWedge_l3
    rw [if_neg (by rw [zi_le (by omega) (by omega) (by omega) (by omega)]; omega), show (1 : Int32) = Int32.ofInt 1 from rfl, show (2 : Int32) = Int32.ofInt 2 from rfl, zi_add, fX11_downBy_ok _ (by omega) (by omega) (by omega) (by omega), Option.bind_some, fX11_restBy_ok _ (by omega) (by omega) (by omega) (by omega), Option.bind_some, zi_neg, zi_mul, zi_mul, zi_add, dlet_v, dlet_v, zi_add, zi_add, fX9_put_ok kSp44 (by omega), fX9_put_ok kSp44 (by omega), Option.bind_some, Option.bind_some, dlet_v, dlet_v, ← zW2_s (by decide), Nat.zero_add]
    have bd : 0 ≤ (k : Int) % 2 ∧ (k : Int) % 2 < 2 := by omega
    by_cases q : (k : Int) % 2 = 1
    · rw [if_pos (by rw [q]), show zVx x w k = x + -w * ((k + 1) / 2) by unfold zVx; rw [if_pos q]]; rfl
    · rw [if_neg (by rw [zi_eq (by omega) (by omega) (by omega) (by omega)]; exact q), show zVx x w k = x + w * ((k + 1) / 2) by unfold zVx; rw [if_neg q]]; rfl) (by
    show fX7_draftWedge_l3 (Int32.ofInt x) (Int32.ofInt y) (Int32.ofInt w) (Int32.ofInt N) (Int32.ofInt (N : Int)) _ = _
    unfold fX7_draftWedge_l3
    rw [if_pos (Int32.le_refl _)])
  rw [show ((0 : Int32), m) = (Int32.ofInt ((0 : Nat) : Int), zW2 m 45 46 0 (zVx x w) (zVy y w) 0) by rw [zW2_0]; rfl, e]
  rfl
theorem zB_and (a b : Bool) : zB a &&& zB b = zB (a && b) := by cases a <;> cases b <;> decide
theorem zX_new {S : Nat} {sx sx' : Nat → Nat → Int} {so : Nat → Nat} {go : Nat → Nat → Nat} {i d : Nat} (hx : ∀ s, s < S → sx' s = sx s) (h : so i < S) : zX sx' so go i d = zX sx so go i d := by
  unfold zX; rw [hx _ h]
theorem zPr.new {N S S' P : Nat} {sx sy sx' sy' : Nat → Nat → Int} {so : Nat → Nat} {co te : Nat → Int} {lt : Nat → Bool} {go : Nat → Nat → Nat} (h : zPr N S P sx sy so co te lt go) (hS : S ≤ S') (hx : ∀ s, s < S → sx' s = sx s) (hy : ∀ s, s < S → sy' s = sy s) : zPr N S' P sx' sy' so co te lt go := by
  refine ⟨h.1, fun i hi => ?_⟩
  obtain ⟨r1, r2, r3, r4, r5, r6, r7⟩ := h.2 i hi
  obtain ⟨q1, _⟩ := h.2 (i - 1) (by omega)
  refine ⟨by omega, r2, r3, r4, r5, ?_, r7⟩
  unfold zGo at *
  have e : zW sx' sy' so go i = zW sx sy so go i := by
    funext d p
    unfold zW
    rw [zX_new hx q1, zX_new hy q1, hx _ r1, hy _ r1]
  rw [e]; exact r6
theorem zPc.new {N S P : Nat} {sx sy sx' sy' : Nat → Nat → Int} {so : Nat → Nat} {co te : Nat → Int} {lt : Nat → Bool} {go : Nat → Nat → Nat} {m : dM} (hr : zPr N S P sx sy so co te lt go) (h : zPc N P sx sy so co te lt go m) (hx : ∀ s, s < S → sx' s = sx s) (hy : ∀ s, s < S → sy' s = sy s) : zPc N P sx' sy' so co te lt go m := by
  refine ⟨h.1, fun i hi => ?_⟩
  obtain ⟨r1, _⟩ := hr.2 i hi
  obtain ⟨q1, _⟩ := hr.2 (i - 1) (by omega)
  obtain ⟨c1, c2, c3, c4, c5⟩ := h.2 i hi
  refine ⟨c1, c2, c3, c4, fun d hd => ?_⟩
  rw [zX_new hx r1, zX_new hy r1, zX_new hx q1, zX_new hy q1]
  exact c5 d hd
theorem zCp_ne {m : dM} {p q k a : Nat} (h1 : a ≠ p + 1) (h2 : a ≠ p + 2) : (zCp m p q k).1 a = m.1 a := by
  funext j
  show (if a = p + 1 ∧ j < k then _ else if a = p + 2 ∧ j < k then _ else m.1 a j) = _
  rw [if_neg (fun z => h1 z.1), if_neg (fun z => h2 z.1)]
theorem zCp_1 {m : dM} {p q k j : Nat} (h : j < k) : (zCp m p q k).1 (p + 1) j = m.1 (q + 1) j := by
  show (if p + 1 = p + 1 ∧ j < k then _ else _) = _
  rw [if_pos ⟨rfl, h⟩]
theorem zCp_2 {m : dM} {p q k j : Nat} (h : j < k) : (zCp m p q k).1 (p + 2) j = m.1 (q + 2) j := by
  show (if p + 2 = p + 1 ∧ j < k then _ else if p + 2 = p + 2 ∧ j < k then _ else _) = _
  rw [if_neg (by omega), if_pos ⟨rfl, h⟩]
theorem zCp_x {m : dM} {p q k : Nat} : (zCp m p q k).2 = m.2 := rfl
/-- the memory of the class, once the draft is kept as the set S -/
def zKeep (m : dM) (S N : Nat) (f g : Nat → Int) : dM := d1 (zCp (zW2 m 45 46 0 f g N) (8 + 3 * S) 44 10) 6 2 (Int32.ofInt (S + 1))
theorem zKeep_ne {m : dM} {S N a : Nat} {f g : Nat → Int} (h1 : a ≠ 45) (h2 : a ≠ 46) (h3 : a ≠ 6) (h4 : a ≠ 8 + 3 * S + 1) (h5 : a ≠ 8 + 3 * S + 2) : (zKeep m S N f g).1 a = m.1 a := by
  unfold zKeep; rw [zd1_ne h3, zCp_ne h4 h5, zW2_ne h1 h2]
theorem dS_r {α β γ : Type} {b : β} {f : α → γ} {g : β → γ} : dS (.inr b) f g = g b := rfl
theorem dS_l {α β γ : Type} {a : α} {f : α → γ} {g : β → γ} : dS (.inl a) f g = f a := rfl
theorem zW2_fr {m : dM} {N : Nat} {f g : Nat → Int} : (∀ a, a < 44 ∨ 47 ≤ a → (zW2 m 45 46 0 f g N).1 a = m.1 a) ∧ ∀ j, j < N → (zW2 m 45 46 0 f g N).1 45 j = Int32.ofInt (f j) ∧ (zW2 m 45 46 0 f g N).1 46 j = Int32.ofInt (g j) := by
  refine ⟨fun a h => zW2_ne (by omega) (by omega), fun j hj => ⟨?_, ?_⟩⟩
  · have := zW2_a (m := m) (a := 45) (b := 46) (o := 0) (f := f) (g := g) hj; rw [Nat.zero_add] at this; exact this
  · have := zW2_b (m := m) (a := 45) (b := 46) (o := 0) (f := f) (g := g) (by decide) hj; rw [Nat.zero_add] at this; exact this
/-- what comes of a draft, in the class -/
theorem zDraft {N S : Nat} {le kn : Nat → Int} {il io : Nat → Bool} {sx sy : Nat → Nat → Int} {f g : Nat → Int} {m : dM} (hd : zDr N le kn) (hdc : zDc N le kn il io m) (hs : zSr N S sx sy) (hsc : zSc N S sx sy m) (hb : zBd f g N) : fX11_keepDraft (zW2 m 45 46 0 f g N) 0 = if zAll f g N = true then if S < 12 then some (.inr (Int32.ofInt S, zKeep m S N f g)) else some (.inl (2, zW2 m 45 46 0 f g N)) else some (.inl (1, zW2 m 45 46 0 f g N)) :=
  fX11_keepDraft_ok hd.2.1 hs.1 hb zW2_fr.2 (by rw [zW2_fr.1 1 (by decide)]; exact hdc.1) (by rw [zW2_fr.1 6 (by decide)]; exact hsc.1)
theorem zLn_bd {a b c d : Int} {N : Nat} (hN : 2 ≤ N) (hN' : N ≤ 10) (h1 : zFd a b = true) (h2 : zFd c d = true) : zBd (zLn a c N) (zLn b d N) N := by
  obtain ⟨a1, a2, b1, b2⟩ := zFd_in h1
  obtain ⟨c1, c2, d1', d2'⟩ := zFd_in h2
  have r : ∀ x y : Int, 0 ≤ x → x ≤ 1600 → 0 ≤ y → y ≤ 1600 → ∀ j : Nat, j < N → -2147483648 ≤ zLn x y N j ∧ zLn x y N j < 2147483648 := by
    intro x y x1 x2 y1 y2 j hj
    have q1 := zmul_bd (c := (j : Int)) (e := y - x) (n := 10) (M := 1600) (by omega) (by omega) (by omega) (by omega) (by omega)
    have r2 : -20000 ≤ ((j : Int) * (y - x)) / ((N : Int) - 1) := (Int.le_ediv_iff_mul_le (by omega)).mpr (by omega)
    have r3 : ((j : Int) * (y - x)) / ((N : Int) - 1) ≤ 20000 := Int.ediv_le_of_le_mul (by omega) (by omega)
    show -2147483648 ≤ x + _ ∧ x + _ < _
    omega
  have r' := fun j hj => And.intro (r a c a1 a2 c1 c2 j hj) (r b d b1 (by omega) d1' (by omega) j hj)
  exact ⟨⟨(r' 0 (by omega)).1.1, (r' 0 (by omega)).1.2, (r' 0 (by omega)).2.1, (r' 0 (by omega)).2.2⟩, fun _ j hj => ⟨(r' j hj).1.1, (r' j hj).1.2, (r' j hj).2.1, (r' j hj).2.2⟩⟩
theorem zK0 {x f w : Int} : zKx x f w 0 = x := by unfold zKx; simp
theorem zK0' {y f w : Int} : zKy y f w 0 = y := by unfold zKy; simp
theorem zV0 {x w : Int} : zVx x w 0 = x := by unfold zVx; simp
theorem zV0' {y w : Int} : zVy y w 0 = y := by unfold zVy; simp
theorem zK_bd {x y f w : Int} {N : Nat} (hN' : N ≤ 10) (x1 : -2147483648 ≤ x) (x2 : x < 2147483648) (y1 : -2147483648 ≤ y) (y2 : y < 2147483648) (f1 : 1 ≤ f) (f2 : f ≤ 10) (w1 : 1 ≤ w) (w2 : w ≤ 400) : zBd (zKx x f w) (zKy y f w) N := by
  unfold zBd
  rw [zK0, zK0']
  refine ⟨⟨x1, x2, y1, y2⟩, fun h j hj => ?_⟩
  obtain ⟨a1, a2, b1, b2⟩ := zFd_in h
  have m1 := Int.emod_nonneg (j : Int) (show f ≠ 0 by omega)
  have m2 := Int.emod_lt_of_pos (j : Int) (show 0 < f by omega)
  have m3 : 0 ≤ (j : Int) / f := Int.ediv_nonneg (by omega) (by omega)
  have m4 : (j : Int) / f ≤ j := Int.ediv_le_self f (by omega)
  have q1 := zmul_bd (c := w) (e := (j : Int) % f) (n := 400) (M := 10) (by omega) (by omega) (by omega) (by omega) (by omega)
  have q2 := zmul_bd (c := w) (e := (j : Int) / f) (n := 400) (M := 10) (by omega) (by omega) (by omega) (by omega) (by omega)
  show -2147483648 ≤ x + _ ∧ x + _ < _ ∧ -2147483648 ≤ y + _ ∧ y + _ < _
  omega
theorem zV_bd {x y w : Int} {N : Nat} (hN' : N ≤ 10) (x1 : -2147483648 ≤ x) (x2 : x < 2147483648) (y1 : -2147483648 ≤ y) (y2 : y < 2147483648) (w1 : 1 ≤ w) (w2 : w ≤ 400) : zBd (zVx x w) (zVy y w) N := by
  unfold zBd
  rw [zV0, zV0']
  refine ⟨⟨x1, x2, y1, y2⟩, fun h j hj => ?_⟩
  obtain ⟨a1, a2, b1, b2⟩ := zFd_in h
  have q2 := zmul_bd (c := w) (e := ((j : Int) + 1) / 2) (n := 400) (M := 10) (by omega) (by omega) (by omega) (by omega) (by omega)
  have bx : -2147483648 ≤ zVx x w j ∧ zVx x w j < 2147483648 := by
    unfold zVx
    have : -w * (((j : Int) + 1) / 2) = -(w * (((j : Int) + 1) / 2)) := Int.neg_mul _ _
    split <;> omega
  refine ⟨bx.1, bx.2, ?_⟩
  show -2147483648 ≤ y + _ ∧ y + _ < _
  omega
theorem fX11_line_ok {N S : Nat} {le kn : Nat → Int} {il io : Nat → Bool} {sx sy : Nat → Nat → Int} {m : dM} (hd : zDr N le kn) (hdc : zDc N le kn il io m) (hs : zSr N S sx sy) (hsc : zSc N S sx sy m) {a b c d : Int} (a1 : -2147483648 ≤ a) (a2 : a < 2147483648) (b1 : -2147483648 ≤ b) (b2 : b < 2147483648) (c1 : -2147483648 ≤ c) (c2 : c < 2147483648) (d1' : -2147483648 ≤ d) (d2' : d < 2147483648) : fX11_line m 0 (Int32.ofInt a) (Int32.ofInt b) (Int32.ofInt c) (Int32.ofInt d) = if zFd a b = true ∧ zFd c d = true then if zAll (zLn a c N) (zLn b d N) N = true then if S < 12 then some (.inr (Int32.ofInt S, zKeep m S N (zLn a c N) (zLn b d N))) else some (.inl (2, zW2 m 45 46 0 (zLn a c N) (zLn b d N) N)) else some (.inl (1, zW2 m 45 46 0 (zLn a c N) (zLn b d N) N)) else some (.inl (1, m)) := by
  unfold fX11_line fX1_number
  rw [dg_ok kF, dg_ok kDots, hdc.1, fX11_isOnField_ok m a1 a2 b1 b2, Option.bind_some, fX11_isOnField_ok m c1 c2 d1' d2', Option.bind_some, Option.bind_some]
  cases e1 : zFd a b
  · rw [if_pos (show zB false = 0 from rfl), if_neg (fun z => absurd z.1 (by decide))]
  · rw [if_neg (show ¬ zB true = 0 by decide)]
    cases e2 : zFd c d
    · rw [if_pos (show zB false = 0 from rfl), if_neg (fun z => absurd z.2 (by decide))]
    · rw [if_neg (show ¬ zB true = 0 by decide), if_pos ⟨rfl, rfl⟩, fX7_draftLine_ok hd.1 hd.2.1 e1 e2, Option.bind_some, zDraft hd hdc hs hsc (zLn_bd hd.1 hd.2.1 e1 e2)]
      by_cases q : zAll (zLn a c N) (zLn b d N) N = true
      · simp only [if_pos q]
        by_cases q2 : S < 12
        · simp only [if_pos q2]; rfl
        · simp only [if_neg q2]; rfl
      · simp only [if_neg q]; rfl
theorem fX11_block_ok {N S : Nat} {le kn : Nat → Int} {il io : Nat → Bool} {sx sy : Nat → Nat → Int} {m : dM} (hd : zDr N le kn) (hdc : zDc N le kn il io m) (hs : zSr N S sx sy) (hsc : zSc N S sx sy m) {a b c d : Int} (a1 : -2147483648 ≤ a) (a2 : a < 2147483648) (b1 : -2147483648 ≤ b) (b2 : b < 2147483648) (c1 : -2147483648 ≤ c) (c2 : c < 2147483648) (d1' : -2147483648 ≤ d) (d2' : d < 2147483648) : fX11_block m 0 (Int32.ofInt a) (Int32.ofInt b) (Int32.ofInt c) (Int32.ofInt d) = if (1 ≤ c ∧ c ≤ 10) ∧ 1 ≤ d ∧ d ≤ 400 then if zAll (zKx a c d) (zKy b c d) N = true then if S < 12 then some (.inr (Int32.ofInt S, zKeep m S N (zKx a c d) (zKy b c d))) else some (.inl (2, zW2 m 45 46 0 (zKx a c d) (zKy b c d) N)) else some (.inl (1, zW2 m 45 46 0 (zKx a c d) (zKy b c d) N)) else some (.inl (1, m)) := by
  unfold fX11_block
  rw [dg_ok kF, show fX11_needRange m (Int32.ofInt c) 1 10 = _ from fX11_needRange_ok m (b := 1) (c := 10) c1 c2 (by omega) (by omega) (by omega) (by omega)]
  by_cases e1 : 1 ≤ c ∧ c ≤ 10
  · rw [if_pos e1, Option.bind_some]
    show (fX11_needRange m _ _ _).bind _ = _
    rw [show fX11_needRange m (Int32.ofInt d) 1 400 = _ from fX11_needRange_ok m (b := 1) (c := 400) d1' d2' (by omega) (by omega) (by omega) (by omega)]
    by_cases e2 : 1 ≤ d ∧ d ≤ 400
    · rw [if_pos e2, Option.bind_some, if_pos ⟨e1, e2⟩]
      rw [dS_r]
      unfold fX1_number
      rw [dg_ok kDots, hdc.1, Option.bind_some, fX7_draftBlock_ok hd.1 hd.2.1 e1.1 e1.2, Option.bind_some, zDraft hd hdc hs hsc (zK_bd hd.2.1 a1 a2 b1 b2 e1.1 e1.2 e2.1 e2.2)]
      by_cases q : zAll (zKx a c d) (zKy b c d) N = true
      · simp only [if_pos q]
        by_cases q2 : S < 12
        · simp only [if_pos q2]; rfl
        · simp only [if_neg q2]; rfl
      · simp only [if_neg q]; rfl
    · rw [if_neg e2, if_neg (fun z => e2 z.2)]; rfl
  · rw [if_neg e1, if_neg (fun z => e1 z.1)]; rfl
theorem fX11_wedge_ok {N S : Nat} {le kn : Nat → Int} {il io : Nat → Bool} {sx sy : Nat → Nat → Int} {m : dM} (hd : zDr N le kn) (hdc : zDc N le kn il io m) (hs : zSr N S sx sy) (hsc : zSc N S sx sy m) {a b c : Int} (a1 : -2147483648 ≤ a) (a2 : a < 2147483648) (b1 : -2147483648 ≤ b) (b2 : b < 2147483648) (c1 : -2147483648 ≤ c) (c2 : c < 2147483648) : fX11_wedge m 0 (Int32.ofInt a) (Int32.ofInt b) (Int32.ofInt c) = if 1 ≤ c ∧ c ≤ 400 then if zAll (zVx a c) (zVy b c) N = true then if S < 12 then some (.inr (Int32.ofInt S, zKeep m S N (zVx a c) (zVy b c))) else some (.inl (2, zW2 m 45 46 0 (zVx a c) (zVy b c) N)) else some (.inl (1, zW2 m 45 46 0 (zVx a c) (zVy b c) N)) else some (.inl (1, m)) := by
  unfold fX11_wedge
  rw [dg_ok kF, show fX11_needRange m (Int32.ofInt c) 1 400 = _ from fX11_needRange_ok m (b := 1) (c := 400) c1 c2 (by omega) (by omega) (by omega) (by omega)]
  by_cases e1 : 1 ≤ c ∧ c ≤ 400
  · rw [if_pos e1, Option.bind_some, if_pos e1]
    rw [dS_r]
    unfold fX1_number
    rw [dg_ok kDots, hdc.1, Option.bind_some, fX7_draftWedge_ok hd.1 hd.2.1, Option.bind_some, zDraft hd hdc hs hsc (zV_bd hd.2.1 a1 a2 b1 b2 e1.1 e1.2)]
    by_cases q : zAll (zVx a c) (zVy b c) N = true
    · simp only [if_pos q]
      by_cases q2 : S < 12
      · simp only [if_pos q2]; rfl
      · simp only [if_neg q2]; rfl
    · simp only [if_neg q]; rfl
  · rw [if_neg e1, if_neg e1]; rfl
