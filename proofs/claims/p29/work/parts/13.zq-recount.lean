theorem kRcF : dkg 390 3 = true := by decide +kernel
theorem kSp373 : zSp 373 := by unfold zSp; decide +kernel
theorem kSp376 : zSp 376 := by unfold zSp; decide +kernel
def zRcM (m0 : dM) (q : Option (Nat × Nat)) (M : dM) : Prop := M.2 = m0.2 ∧ (∀ a, a < 372 ∨ 391 ≤ a → M.1 a = m0.1 a) ∧ ∀ k, k < 4 → M.1 390 k = Int32.ofInt (zQ q k)
def zRcN (N : Nat) (x y : Nat → Nat → Int) (c : Nat) (M : dM) : Prop := (∀ d, d < N → M.1 374 d = Int32.ofInt (x (c - 1) d) ∧ M.1 375 d = Int32.ofInt (y (c - 1) d) ∧ M.1 377 d = Int32.ofInt (x c d) ∧ M.1 378 d = Int32.ofInt (y c d)) ∧ (∀ d, d < N → M.1 (380 + d) d = Int32.ofInt (zSq (x c d) (y c d) (x (c - 1) d) (y (c - 1) d))) ∧ ∀ d e, d < e → e < N → M.1 (380 + d) e = Int32.ofInt (zSq (x c d) (y c d) (x c e) (y c e))
def zRcS (F : Nat → Nat → Bool) (co c n : Nat) (q : Option (Nat × Nat)) : Prop := (q = none ∧ (∀ c', 1 ≤ c' → c' < c → ∀ y, y < 300 → F c' y = false) ∧ ∀ y, y < n → F c y = false) ∨ (q ≠ none ∧ zFirst F co q)
theorem zRcN.to {N c : Nat} {x y : Nat → Nat → Int} {M M' : dM} (hN : N ≤ 10) (h : zRcN N x y c M) (h' : ∀ a, 372 ≤ a → a < 390 → M'.1 a = M.1 a) : zRcN N x y c M' := by
  refine ⟨fun d hd => ?_, fun d hd => ?_, fun d e hde he => ?_⟩
  · rw [h' 374 (by decide) (by decide), h' 375 (by decide) (by decide), h' 377 (by decide) (by decide), h' 378 (by decide) (by decide)]; exact h.1 d hd
  · rw [h' (380 + d) (by omega) (by omega)]; exact h.2.1 d hd
  · rw [h' (380 + d) (by omega) (by omega)]; exact h.2.2 d e hde he
theorem zRcM_tell {m0 M : dM} {n c : Nat} {q : Option (Nat × Nat)} {p2 p3 p4 : Int32} (h : zRcM m0 q M) (h2 : p2 = Int32.ofInt (zQ (some (c, n)) 1)) (h3 : p3 = Int32.ofInt (zQ (some (c, n)) 2)) (h4 : p4 = Int32.ofInt (zQ (some (c, n)) 3)) : ∃ M', fX2_tell M 390 (Int32.ofInt (c : Int)) p2 p3 p4 = some M' ∧ zRcM m0 (some (c, n)) M' ∧ ∀ a, a ≠ 390 → M'.1 a = M.1 a := by
  obtain ⟨i1, i2, i3⟩ := h
  unfold fX2_tell
  rw [dg_ok kRcF, dlet_v, dlet_v, dlet_v, dlet_v]
  refine ⟨_, rfl, ⟨i1, fun a ha => ?_, fun k hk => ?_⟩, fun a ha => by rw [zd1_ne ha, zd1_ne ha, zd1_ne ha, zd1_ne ha]⟩
  · rw [zd1_ne (by omega), zd1_ne (by omega), zd1_ne (by omega), zd1_ne (by omega)]; exact i2 a ha
  · match k, hk with
    | 0, _ => rw [zd1_nk (by decide), zd1_nk (by decide), zd1_nk (by decide), zd1_at]; rfl
    | 1, _ => rw [zd1_nk (by decide), zd1_nk (by decide), zd1_at]; exact h2
    | 2, _ => rw [zd1_nk (by decide), zd1_at]; exact h3
    | 3, _ => rw [zd1_at]; exact h4
theorem fX2_isFound_ok {m0 M : dM} {F : Nat → Nat → Bool} {co c n : Nat} {q : Option (Nat × Nat)} (h : zRcM m0 q M) (hs : zRcS F co c n q) (hco : co ≤ 64) : fX2_isFound M 390 = some (if q = none then 0 else 1) := by
  unfold fX2_isFound
  rw [dg_ok kRcF, h.2.2 0 (by decide)]
  match q, hs with
  | none, _ => rfl
  | some (a, b), hs =>
    rcases hs with ⟨w, _⟩ | ⟨_, w⟩
    · exact nomatch w
    · have w2 := w.2.1
      show (if Int32.ofInt (a : Int) = -1 then _ else _) = _
      rw [if_neg (by rw [show (-1 : Int32) = Int32.ofInt (-1) from rfl, zi_eq (by omega) (by omega) (by omega) (by omega)]; omega), if_neg (fun z => nomatch z)]
theorem zRcS_pad {F : Nat → Nat → Bool} {co c n n' : Nat} {q : Option (Nat × Nat)} (h : zRcS F co c n q) (hn : ∀ y, n ≤ y → y < n' → F c y = false) : zRcS F co c n' q := by
  rcases h with ⟨h1, h2, h3⟩ | h
  · refine Or.inl ⟨h1, h2, fun y hy => ?_⟩
    by_cases w : y < n
    · exact h3 y w
    · exact hn y (by omega) hy
  · exact Or.inr h
theorem zRcS_yes {F : Nat → Nat → Bool} {co c n n' : Nat} (h : zRcS F co c n none) (c1 : 1 ≤ c) (c2 : c ≤ co) (hn : n < 300) (hF : F c n = true) : zRcS F co c n' (some (c, n)) := by
  rcases h with ⟨h1, h2, h3⟩ | h
  · exact Or.inr ⟨(fun z => nomatch z), c1, c2, hn, hF, h2, h3⟩
  · exact absurd rfl h.1
theorem zRcM_dc {m0 M : dM} {N : Nat} {q : Option (Nat × Nat)} {le kn : Nat → Int} {il io : Nat → Bool} (h : zRcM m0 q M) (hdc : zDc N le kn il io m0) : zDc N le kn il io M := hdc.to (fun a q1 q2 => h.2.1 a (by omega))
theorem kRow {d : Nat} (h : d < 10) : dkg (379 + 1 + d) 20 = true ∧ dL (379 + 1 + d) = 10 := by
  have : ∀ d : Fin 10, dkg (379 + 1 + d.val) 20 = true ∧ dL (379 + 1 + d.val) = 10 := by decide +kernel
  exact this ⟨d, h⟩
theorem kd379 : dL 379 = 10 := by decide +kernel
theorem fX6_recountSteps_ok {m0 M : dM} {N co c : Nat} {le kn : Nat → Int} {il io : Nat → Bool} {x y : Nat → Nat → Int} {t : Int} {q : Option (Nat × Nat)} (hd : zDr N le kn) (hdc : zDc N le kn il io m0) (hx : zOnF N co x y) (t1 : 60 ≤ t) (t2 : t ≤ 240) (c1 : 1 ≤ c) (c2 : c ≤ co) (hco : co ≤ 64) (h : zRcM m0 q M) (hn : zRcN N x y c M) (hs : zRcS (zFlt N (zMar kn il io) (zMo le t) x y) co c 0 q) : ∃ M' q', fX6_recountSteps M 372 (Int32.ofInt (c : Int)) (Int32.ofInt t) 1 (Int32.ofInt N) = some M' ∧ zRcM m0 q' M' ∧ zRcN N x y c M' ∧ zRcS (zFlt N (zMar kn il io) (zMo le t) x y) co c 100 q' := by
  have hN := hd.2.1
  unfold fX6_recountSteps
  rw [dg_ok kRec, dg_ok kDots]
  obtain ⟨r, e, q', w1, w2, w3⟩ := dlp_inv (f := fun q => dP2 q (fun v2 m3 => fX6_recountSteps_l3 (Int32.ofInt (c : Int)) (Int32.ofInt t) 1 (Int32.ofInt N) v2 m3)) (Q := fun r => ∃ q', zRcM m0 q' r ∧ zRcN N x y c r ∧ zRcS (zFlt N (zMar kn il io) (zMo le t) x y) co c N q') (fun k s => s.1 = Int32.ofInt (k : Int) ∧ ∃ q', zRcM m0 q' s.2 ∧ zRcN N x y c s.2 ∧ zRcS (zFlt N (zMar kn il io) (zMo le t) x y) co c k q') N
    (fun k s hk hs' => by
      obtain ⟨v, Q⟩ := s
      obtain ⟨i1, q1, i2, i3, i4⟩ := hs'
      have i1 : v = Int32.ofInt (k : Int) := i1
      have i2 : zRcM m0 q1 Q := i2
      have i3 : zRcN N x y c Q := i3
      subst i1
      show (∃ s', fX6_recountSteps_l3 (Int32.ofInt (c : Int)) (Int32.ofInt t) 1 (Int32.ofInt N) (Int32.ofInt (k : Int)) Q = _ ∧ _) ∨ ∃ r, fX6_recountSteps_l3 (Int32.ofInt (c : Int)) (Int32.ofInt t) 1 (Int32.ofInt N) (Int32.ofInt (k : Int)) Q = _ ∧ _
      unfold fX6_recountSteps_l3
      rw [if_neg (by rw [zi_le (by omega) (by omega) (by omega) (by omega)]; omega), fX2_isFound_ok i2 i4 hco, Option.bind_some]
      by_cases w : q1 = none
      · subst w
        refine Or.inl ?_
        rw [if_pos rfl, if_pos rfl, fX1_marches_ok hd (zRcM_dc i2 hdc) (by omega), Option.bind_some, zi_1]
        have F1 : zFlt N (zMar kn il io) (zMo le t) x y c k = (decide (k < N) && zMar kn il io k && decide (zMo le t k < zSq (x c k) (y c k) (x (c - 1) k) (y (c - 1) k))) := zFlt_step (by omega)
        have no : zFlt N (zMar kn il io) (zMo le t) x y c k = false → zRcS (zFlt N (zMar kn il io) (zMo le t) x y) co c (k + 1) none := fun w => zRcS_pad i4 (fun z z1 z2 => by rw [show z = k by omega]; exact w)
        cases hm : zMar kn il io k
        · rw [if_pos (show zB false = 0 from rfl), dlet_v]
          exact ⟨_, rfl, rfl, none, i2, i3, no (by rw [F1, hm, Bool.and_false]; rfl)⟩
        · obtain ⟨l1, l2⟩ := hd.2.2.1 k (by omega)
          have bm := zMo_in l1 l2 t1 t2
          have bd := zOnF_sq hx (c := c) (c' := c - 1) (d := k) (d' := k) (by omega) (by omega) hk hk
          rw [hm, decide_eq_true hk] at F1
          rw [if_neg (show ¬ zB true = 0 by decide), kd379, dg_ok (dIx_nat (by omega) (by decide)), zi_cn (by omega), dg_ok (kRow (by omega)).1, (kRow (by omega)).2, dg_ok (dIx_nat (by omega) (by decide)), fX1_stepSquare_ok hd (zRcM_dc i2 hdc) (by omega) t1 t2, Option.bind_some, show Q.1 (379 + 1 + k) k = _ from i3.2.1 k hk]
          by_cases w : zMo le t k < zSq (x c k) (y c k) (x (c - 1) k) (y (c - 1) k)
          · rw [if_neg (by rw [zi_le (by omega) (by omega) (by omega) (by omega)]; omega)]
            obtain ⟨M', u1, u2, u3⟩ := zRcM_tell (n := k) (c := c) (p2 := 0) (p3 := Int32.ofInt (k : Int)) (p4 := -1) i2 (by show (0 : Int32) = Int32.ofInt ((k / 100 : Nat) : Int); rw [show k / 100 = 0 by omega]; rfl) (by show _ = Int32.ofInt (if k < 100 then (k : Int) else _); rw [if_pos (by omega)]) (by show _ = Int32.ofInt (if k < 100 then (-1 : Int) else _); rw [if_pos (by omega)]; rfl)
            rw [u1, Option.bind_some, dlet_v]
            exact ⟨_, rfl, rfl, _, u2, i3.to hN (fun a a1 a2 => u3 a (by omega)), zRcS_yes i4 c1 c2 (by omega) (by rw [F1, decide_eq_true w]; rfl)⟩
          · rw [if_pos (by rw [zi_le (by omega) (by omega) (by omega) (by omega)]; omega), dlet_v]
            exact ⟨_, rfl, rfl, none, i2, i3, no (by rw [F1, decide_eq_false w]; rfl)⟩
      · rw [if_neg w, if_neg z10]
        refine Or.inr ⟨Q, rfl, q1, i2, i3, ?_⟩
        rcases i4 with i4 | i4
        · exact absurd i4.1 w
        · exact Or.inr i4)
    (fun s hs' => by
      obtain ⟨v, Q⟩ := s
      obtain ⟨i1, i2⟩ := hs'
      have i1 : v = Int32.ofInt (N : Int) := i1
      subst i1
      refine ⟨Q, ?_, i2⟩
      show fX6_recountSteps_l3 (Int32.ofInt (c : Int)) (Int32.ofInt t) 1 (Int32.ofInt N) (Int32.ofInt (N : Int)) Q = _
      unfold fX6_recountSteps_l3
      rw [if_pos (Int32.le_refl _)]) N 0 dFl (0, M) (by omega) (by show N < 100000; omega) ⟨rfl, q, h, hn, hs⟩
  refine ⟨r, q', by rw [e]; rfl, w1, w2, zRcS_pad w3 (fun z z1 z2 => ?_)⟩
  rw [zFlt_step z2, decide_eq_false (by omega)]; rfl
theorem zRPairs {m0 M : dM} {N co c B : Nat} {kn : Nat → Int} {il io : Nat → Bool} {x y : Nat → Nat → Int} {mo : Nat → Int} {q : Option (Nat × Nat)} {f8 : Int32 → dM → Option ((Int32 × dM) ⊕ dM)} {f15 : Int32 → Int32 → dM → Option ((Int32 × dM) ⊕ dM)} (hN : N ≤ 10) (hB : B = 100 ∨ B = 200) (hco : co ≤ 64) (c1 : 1 ≤ c) (c2 : c ≤ co) (h : zRcM m0 q M) (hn : zRcN N x y c M) (hs : zRcS (zFlt N (zMar kn il io) mo x y) co c B q)
    (h8 : ∀ v m, f8 v m = if Int32.ofInt (N : Int) ≤ v then some (.inr m) else dlet (v + 1 : Int32) (fun v36 => (dlp (fun q => dP2 q (fun v38 m39 => f15 v v38 m39)) dFl (v36, m)).bind (fun q => dP1 q (fun m66 => dlet (v + 1 : Int32) (fun v67 => some (.inl (v67, m66)))))))
    (h15 : ∀ v w m, Int32.ofInt (N : Int) ≤ w → f15 v w m = some (.inr m))
    (stop : ∀ (d e : Nat) (a : Nat × Nat) (m : dM), e < N → zRcM m0 (some a) m → a.1 ≤ 64 → f15 (Int32.ofInt (d : Int)) (Int32.ofInt (e : Int)) m = some (.inr m))
    (st : ∀ (d e : Nat) (m : dM), d < e → e < N → zRcM m0 none m → zRcN N x y c m → (zFlt N (zMar kn il io) mo x y c (B + 10 * d + e) = false ∧ f15 (Int32.ofInt (d : Int)) (Int32.ofInt (e : Int)) m = some (.inl (Int32.ofInt ((e + 1 : Nat) : Int), m))) ∨ ∃ M', zFlt N (zMar kn il io) mo x y c (B + 10 * d + e) = true ∧ zRcM m0 (some (c, B + 10 * d + e)) M' ∧ zRcN N x y c M' ∧ f15 (Int32.ofInt (d : Int)) (Int32.ofInt (e : Int)) m = some (.inl (Int32.ofInt ((e + 1 : Nat) : Int), M'))) : ∃ M' q', dlp (fun q => dP2 q (fun v m => f8 v m)) dFl (0, M) = some M' ∧ zRcM m0 q' M' ∧ zRcN N x y c M' ∧ zRcS (zFlt N (zMar kn il io) mo x y) co c (B + 100) q' := by
  obtain ⟨r, e, q', w1, w2, w3⟩ := dlp_inv (f := fun q => dP2 q (fun v m => f8 v m)) (Q := fun r => ∃ q', zRcM m0 q' r ∧ zRcN N x y c r ∧ zRcS (zFlt N (zMar kn il io) mo x y) co c (B + 10 * N) q') (fun k s => s.1 = Int32.ofInt (k : Int) ∧ ∃ q', zRcM m0 q' s.2 ∧ zRcN N x y c s.2 ∧ zRcS (zFlt N (zMar kn il io) mo x y) co c (B + 10 * k) q') N
    (fun k s hk hs' => by
      obtain ⟨v, Q⟩ := s
      obtain ⟨i1, q1, i2, i3, i4⟩ := hs'
      have i1 : v = Int32.ofInt (k : Int) := i1
      have i2 : zRcM m0 q1 Q := i2
      have i3 : zRcN N x y c Q := i3
      subst i1
      obtain ⟨r, e, q', w1, w2, w3⟩ := dlp_inv (f := fun q => dP2 q (fun v38 m39 => f15 (Int32.ofInt (k : Int)) v38 m39)) (Q := fun r => ∃ q', zRcM m0 q' r ∧ zRcN N x y c r ∧ zRcS (zFlt N (zMar kn il io) mo x y) co c (B + 10 * k + N) q') (fun j s => s.1 = Int32.ofInt ((k + 1 + j : Nat) : Int) ∧ ∃ q', zRcM m0 q' s.2 ∧ zRcN N x y c s.2 ∧ zRcS (zFlt N (zMar kn il io) mo x y) co c (B + 10 * k + (k + 1 + j)) q') (N - (k + 1))
        (fun j s hj hs' => by
          obtain ⟨v, Q⟩ := s
          obtain ⟨i1, q1, i2, i3, i4⟩ := hs'
          have i1 : v = Int32.ofInt ((k + 1 + j : Nat) : Int) := i1
          have i2 : zRcM m0 q1 Q := i2
          have i3 : zRcN N x y c Q := i3
          subst i1
          show (∃ s', f15 (Int32.ofInt (k : Int)) (Int32.ofInt ((k + 1 + j : Nat) : Int)) Q = _ ∧ _) ∨ ∃ r, f15 (Int32.ofInt (k : Int)) (Int32.ofInt ((k + 1 + j : Nat) : Int)) Q = _ ∧ _
          match q1, i2, i4 with
          | none, i2, i4 =>
            rcases st k (k + 1 + j) Q (by omega) (by omega) i2 i3 with ⟨w1, w2⟩ | ⟨M', w1, w2, w3, w4⟩
            · refine Or.inl ⟨_, w2, rfl, none, i2, i3, zRcS_pad i4 (fun z z1 z2 => ?_)⟩
              rw [show z = B + 10 * k + (k + 1 + j) by omega]; exact w1
            · exact Or.inl ⟨_, w4, rfl, _, w2, w3, zRcS_yes i4 c1 c2 (by omega) w1⟩
          | some (a, b), i2, i4 =>
            rcases i4 with i4 | i4
            · exact nomatch i4.1
            · exact Or.inr ⟨Q, stop k (k + 1 + j) (a, b) Q (by omega) i2 (by have := i4.2.2.1; show a ≤ 64; omega), _, i2, i3, Or.inr i4⟩)
        (fun s hs' => by
          obtain ⟨v, Q⟩ := s
          obtain ⟨i1, q1, i2, i3, i4⟩ := hs'
          have i1 : v = Int32.ofInt ((k + 1 + (N - (k + 1)) : Nat) : Int) := i1
          rw [show k + 1 + (N - (k + 1)) = N by omega] at i1 i4
          subst i1
          exact ⟨Q, h15 _ _ Q (Int32.le_refl _), q1, i2, i3, i4⟩) (N - (k + 1)) 0 dFl (Int32.ofInt ((k + 1 : Nat) : Int), Q) (by omega) (by show _ < 100000; omega) ⟨rfl, q1, i2, i3, zRcS_pad i4 (fun z z1 z2 => by
            rw [show z = B + 10 * k + (z - (B + 10 * k)) by omega]
            exact zFlt_no hB (by omega) (by omega) (Or.inl (by omega)))⟩
      refine Or.inl ⟨(Int32.ofInt ((k + 1 : Nat) : Int), r), ?_, rfl, q', w1, w2, zRcS_pad w3 (fun z z1 z2 => ?_)⟩
      · show f8 (Int32.ofInt (k : Int)) Q = _
        rw [h8, if_neg (by rw [zi_le (by omega) (by omega) (by omega) (by omega)]; omega), zi_1, dlet_v, show ((k : Int) + 1) = ((k + 1 : Nat) : Int) from rfl, e]; rfl
      · rw [show z = B + 10 * k + (z - (B + 10 * k)) by omega]
        exact zFlt_no hB (by omega) (by omega) (Or.inl (by omega)))
    (fun s hs' => by
      obtain ⟨v, Q⟩ := s
      obtain ⟨i1, i2⟩ := hs'
      have i1 : v = Int32.ofInt (N : Int) := i1
      subst i1
      refine ⟨Q, ?_, i2⟩
      show f8 (Int32.ofInt (N : Int)) Q = _
      rw [h8, if_pos (Int32.le_refl _)]) N 0 dFl (0, M) (by omega) (by show N < 100000; omega) ⟨rfl, q, h, hn, hs⟩
  refine ⟨r, q', e, w1, w2, zRcS_pad w3 (fun z z1 z2 => ?_)⟩
  rw [show z = B + 10 * ((z - B) / 10) + (z - B) % 10 by omega]
  exact zFlt_no hB (by omega) (by omega) (Or.inl (by omega))
theorem fX2_isFound_no {m0 M : dM} (h : zRcM m0 none M) : fX2_isFound M 390 = some 0 := by
  unfold fX2_isFound; rw [dg_ok kRcF, h.2.2 0 (by decide)]; rfl
theorem fX2_isFound_yes {m0 M : dM} {a : Nat × Nat} (h : zRcM m0 (some a) M) (ha : a.1 ≤ 64) : fX2_isFound M 390 = some 1 := by
  unfold fX2_isFound
  rw [dg_ok kRcF, h.2.2 0 (by decide)]
  show (if Int32.ofInt (a.1 : Int) = -1 then _ else _) = _
  rw [if_neg (by rw [show (-1 : Int32) = Int32.ofInt (-1) from rfl, zi_eq (by omega) (by omega) (by omega) (by omega)]; omega)]
theorem fX6_recountNear_ok {m0 M : dM} {N co c : Nat} {le kn : Nat → Int} {il io : Nat → Bool} {x y : Nat → Nat → Int} {mo : Nat → Int} {q : Option (Nat × Nat)} (hd : zDr N le kn) (hdc : zDc N le kn il io m0) (hx : zOnF N co x y) (c1 : 1 ≤ c) (c2 : c ≤ co) (hco : co ≤ 64) (h : zRcM m0 q M) (hn : zRcN N x y c M) (hs : zRcS (zFlt N (zMar kn il io) mo x y) co c 100 q) : ∃ M' q', fX6_recountNear M 372 (Int32.ofInt (c : Int)) 1 (Int32.ofInt N) = some M' ∧ zRcM m0 q' M' ∧ zRcN N x y c M' ∧ zRcS (zFlt N (zMar kn il io) mo x y) co c 200 q' := by
  have hN := hd.2.1
  unfold fX6_recountNear
  rw [dg_ok kRec, dg_ok kDots]
  obtain ⟨M', q', w1, w2, w3, w4⟩ := zRPairs (f8 := fun v m => fX6_recountNear_l3 (Int32.ofInt (c : Int)) 1 (Int32.ofInt N) v m) (f15 := fun v w m => fX6_recountNear_l15 (Int32.ofInt (c : Int)) 1 (Int32.ofInt N) v w m) hN (Or.inl rfl) hco c1 c2 h hn hs (fun v m => rfl) (fun v w m hw => by
      show fX6_recountNear_l15 (Int32.ofInt (c : Int)) 1 (Int32.ofInt N) v w m = _
      unfold fX6_recountNear_l15; rw [if_pos hw]) (fun d e a m he hm ha => by
      show fX6_recountNear_l15 (Int32.ofInt (c : Int)) 1 (Int32.ofInt N) (Int32.ofInt (d : Int)) (Int32.ofInt (e : Int)) m = _
      unfold fX6_recountNear_l15
      rw [if_neg (by rw [zi_le (by omega) (by omega) (by omega) (by omega)]; omega), fX2_isFound_yes hm ha, Option.bind_some, if_neg z10]) (fun d e m hde he hm hnn => by
      have bd := zOnF_sq hx (c := c) (c' := c) (d := d) (d' := e) (by omega) (by omega) (by omega) he
      have F1 : zFlt N (zMar kn il io) mo x y c (100 + 10 * d + e) = (decide (d < e ∧ e < N) && zMar kn il io d && zMar kn il io e && decide (zSq (x c d) (y c d) (x c e) (y c e) < 100)) := zFlt_near (by omega) (by omega)
      rw [decide_eq_true (show d < e ∧ e < N from ⟨hde, he⟩)] at F1
      show (_ ∧ fX6_recountNear_l15 (Int32.ofInt (c : Int)) 1 (Int32.ofInt N) (Int32.ofInt (d : Int)) (Int32.ofInt (e : Int)) m = _) ∨ ∃ M', _ ∧ _ ∧ _ ∧ fX6_recountNear_l15 (Int32.ofInt (c : Int)) 1 (Int32.ofInt N) (Int32.ofInt (d : Int)) (Int32.ofInt (e : Int)) m = _
      unfold fX6_recountNear_l15
      rw [if_neg (by rw [zi_le (by omega) (by omega) (by omega) (by omega)]; omega), fX2_isFound_no hm, Option.bind_some, if_pos rfl, kd379, dg_ok (dIx_nat (by omega) (by decide)), zi_cn (by omega), dg_ok (kRow (by omega)).1, (kRow (by omega)).2, dg_ok (dIx_nat (by omega) (by decide)), zi_cn (by omega), show m.1 (379 + 1 + d) e = _ from hnn.2.2 d e hde he, zi_1, fX1_marches_ok hd (zRcM_dc hm hdc) (by omega), Option.bind_some, fX1_marches_ok hd (zRcM_dc hm hdc) (by omega), Option.bind_some]
      by_cases w : zSq (x c d) (y c d) (x c e) (y c e) < 100
      · rw [if_neg (by rw [show (100 : Int32) = Int32.ofInt 100 from rfl, zi_le (by omega) (by omega) (by omega) (by omega)]; omega)]
        cases h1 : zMar kn il io d
        · rw [h1, Bool.and_false] at F1
          rw [if_pos (show zB false = 0 from rfl), dlet_v]
          exact Or.inl ⟨F1, rfl⟩
        · rw [if_neg (show ¬ zB true = 0 by decide)]
          cases h2 : zMar kn il io e
          · rw [h2, Bool.and_false] at F1
            rw [if_pos (show zB false = 0 from rfl), dlet_v]
            exact Or.inl ⟨F1, rfl⟩
          · rw [if_neg (show ¬ zB true = 0 by decide)]
            obtain ⟨M', u1, u2, u3⟩ := zRcM_tell (n := 100 + 10 * d + e) (c := c) (p2 := 1) (p3 := Int32.ofInt (d : Int)) (p4 := Int32.ofInt (e : Int)) hm (by show (1 : Int32) = Int32.ofInt (((100 + 10 * d + e) / 100 : Nat) : Int); rw [show (100 + 10 * d + e) / 100 = 1 by omega]; rfl) (by show _ = Int32.ofInt (if (100 + 10 * d + e) < 100 then _ else (((100 + 10 * d + e) % 100 / 10 : Nat) : Int)); rw [if_neg (by omega), show (100 + 10 * d + e) % 100 / 10 = d by omega]) (by show _ = Int32.ofInt (if (100 + 10 * d + e) < 100 then (-1 : Int) else (((100 + 10 * d + e) % 10 : Nat) : Int)); rw [if_neg (by omega), show (100 + 10 * d + e) % 10 = e by omega])
            rw [u1, Option.bind_some, dlet_v]
            exact Or.inr ⟨M', by rw [F1, h1, h2, decide_eq_true w]; rfl, u2, hnn.to hN (fun a a1 a2 => u3 a (by omega)), rfl⟩
      · rw [if_pos (by rw [show (100 : Int32) = Int32.ofInt 100 from rfl, zi_le (by omega) (by omega) (by omega) (by omega)]; omega), dlet_v]
        exact Or.inl ⟨by rw [F1, decide_eq_false w, Bool.and_false], rfl⟩)
  exact ⟨M', q', by rw [w1]; rfl, w2, w3, w4⟩
theorem fX6_recountCrossings_ok {m0 M : dM} {N co c : Nat} {le kn : Nat → Int} {il io : Nat → Bool} {x y : Nat → Nat → Int} {mo : Nat → Int} {q : Option (Nat × Nat)} (hd : zDr N le kn) (hdc : zDc N le kn il io m0) (hx : zOnF N co x y) (c1 : 1 ≤ c) (c2 : c ≤ co) (hco : co ≤ 64) (h : zRcM m0 q M) (hn : zRcN N x y c M) (hs : zRcS (zFlt N (zMar kn il io) mo x y) co c 200 q) : ∃ M' q', fX6_recountCrossings M 372 (Int32.ofInt (c : Int)) 1 (Int32.ofInt N) = some M' ∧ zRcM m0 q' M' ∧ zRcN N x y c M' ∧ zRcS (zFlt N (zMar kn il io) mo x y) co c 300 q' := by
  have hN := hd.2.1
  unfold fX6_recountCrossings
  rw [dg_ok kRec, dg_ok kDots]
  obtain ⟨M', q', w1, w2, w3, w4⟩ := zRPairs (f8 := fun v m => fX6_recountCrossings_l3 (Int32.ofInt (c : Int)) 1 (Int32.ofInt N) v m) (f15 := fun v w m => fX6_recountCrossings_l15 (Int32.ofInt (c : Int)) 1 (Int32.ofInt N) v w m) hN (Or.inr rfl) hco c1 c2 h hn hs (fun v m => rfl) (fun v w m hw => by
      show fX6_recountCrossings_l15 (Int32.ofInt (c : Int)) 1 (Int32.ofInt N) v w m = _
      unfold fX6_recountCrossings_l15; rw [if_pos hw]) (fun d e a m he hm ha => by
      show fX6_recountCrossings_l15 (Int32.ofInt (c : Int)) 1 (Int32.ofInt N) (Int32.ofInt (d : Int)) (Int32.ofInt (e : Int)) m = _
      unfold fX6_recountCrossings_l15
      rw [if_neg (by rw [zi_le (by omega) (by omega) (by omega) (by omega)]; omega), fX2_isFound_yes hm ha, Option.bind_some, if_neg z10]) (fun d e m hde he hm hnn => by
      have F1 : zFlt N (zMar kn il io) mo x y c (200 + 10 * d + e) = (decide (d < e ∧ e < N) && zMar kn il io d && zMar kn il io e && zCrs (x (c - 1) d) (y (c - 1) d) (x c d) (y c d) (x (c - 1) e) (y (c - 1) e) (x c e) (y c e)) := zFlt_cross (by omega) (by omega)
      rw [decide_eq_true (show d < e ∧ e < N from ⟨hde, he⟩)] at F1
      have j1 := hnn.1 d (by omega)
      have j2 := hnn.1 e he
      have b1 := hx c (by omega) d (by omega)
      have b2 := hx c (by omega) e he
      have b3 := hx (c - 1) (by omega) d (by omega)
      have b4 := hx (c - 1) (by omega) e he
      show (_ ∧ fX6_recountCrossings_l15 (Int32.ofInt (c : Int)) 1 (Int32.ofInt N) (Int32.ofInt (d : Int)) (Int32.ofInt (e : Int)) m = _) ∨ ∃ M', _ ∧ _ ∧ _ ∧ fX6_recountCrossings_l15 (Int32.ofInt (c : Int)) 1 (Int32.ofInt N) (Int32.ofInt (d : Int)) (Int32.ofInt (e : Int)) m = _
      unfold fX6_recountCrossings_l15
      rw [if_neg (by rw [zi_le (by omega) (by omega) (by omega) (by omega)]; omega), fX2_isFound_no hm, Option.bind_some, if_pos rfl, fX9_isCrossing_ok kSp373 kSp376 (by omega) (by omega) j1.1 j1.2.1 j1.2.2.1 j1.2.2.2 j2.1 j2.2.1 j2.2.2.1 j2.2.2.2 (by omega) (by omega) (by omega) (by omega) (by omega) (by omega) (by omega) (by omega), Option.bind_some, zi_1, fX1_marches_ok hd (zRcM_dc hm hdc) (by omega), Option.bind_some, fX1_marches_ok hd (zRcM_dc hm hdc) (by omega), Option.bind_some]
      cases w : zCrs (x (c - 1) d) (y (c - 1) d) (x c d) (y c d) (x (c - 1) e) (y (c - 1) e) (x c e) (y c e)
      · rw [if_pos (show zB false = 0 from rfl), dlet_v]
        exact Or.inl ⟨by rw [F1, w, Bool.and_false], rfl⟩
      · rw [if_neg (show ¬ zB true = 0 by decide)]
        cases h1 : zMar kn il io d
        · rw [h1, Bool.and_false] at F1
          rw [if_pos (show zB false = 0 from rfl), dlet_v]
          exact Or.inl ⟨F1, rfl⟩
        · rw [if_neg (show ¬ zB true = 0 by decide)]
          cases h2 : zMar kn il io e
          · rw [h2, Bool.and_false] at F1
            rw [if_pos (show zB false = 0 from rfl), dlet_v]
            exact Or.inl ⟨F1, rfl⟩
          · rw [if_neg (show ¬ zB true = 0 by decide)]
            obtain ⟨M', u1, u2, u3⟩ := zRcM_tell (n := 200 + 10 * d + e) (c := c) (p2 := 2) (p3 := Int32.ofInt (d : Int)) (p4 := Int32.ofInt (e : Int)) hm (by show (2 : Int32) = Int32.ofInt (((200 + 10 * d + e) / 100 : Nat) : Int); rw [show (200 + 10 * d + e) / 100 = 2 by omega]; rfl) (by show _ = Int32.ofInt (if (200 + 10 * d + e) < 100 then _ else (((200 + 10 * d + e) % 100 / 10 : Nat) : Int)); rw [if_neg (by omega), show (200 + 10 * d + e) % 100 / 10 = d by omega]) (by show _ = Int32.ofInt (if (200 + 10 * d + e) < 100 then (-1 : Int) else (((200 + 10 * d + e) % 10 : Nat) : Int)); rw [if_neg (by omega), show (200 + 10 * d + e) % 10 = e by omega])
            rw [u1, Option.bind_some, dlet_v]
            exact Or.inr ⟨M', by rw [F1, h1, h2, w]; rfl, u2, hnn.to hN (fun a a1 a2 => u3 a (by omega)), rfl⟩)
  exact ⟨M', q', by rw [w1]; rfl, w2, w3, w4⟩
theorem fX6_measure_ok {M : dM} {N c : Nat} {x y : Nat → Nat → Int} (hN : N ≤ 10) (h : ∀ d, d < N → M.1 374 d = Int32.ofInt (x (c - 1) d) ∧ M.1 375 d = Int32.ofInt (y (c - 1) d) ∧ M.1 377 d = Int32.ofInt (x c d) ∧ M.1 378 d = Int32.ofInt (y c d)) : ∃ M', fX6_measure M 372 (Int32.ofInt N) = some M' ∧ M'.2 = M.2 ∧ (∀ a, a < 380 ∨ 390 ≤ a → M'.1 a = M.1 a) ∧ zRcN N x y c M' := by
  unfold fX6_measure
  rw [dg_ok kRec]
  obtain ⟨r, e, w1, w2, w3⟩ := dlp_inv (f := fun q => dP2 q (fun v2 m3 => fX6_measure_l2 (Int32.ofInt N) v2 m3)) (Q := fun (r : dM) => r.2 = M.2 ∧ (∀ a, a < 380 ∨ 390 ≤ a → r.1 a = M.1 a) ∧ ∀ d e, d ≤ e → d < N → e < N → r.1 (380 + d) e = Int32.ofInt (if d = e then zSq (x c d) (y c d) (x (c - 1) d) (y (c - 1) d) else zSq (x c d) (y c d) (x c e) (y c e))) (fun k s => s.1 = Int32.ofInt (k : Int) ∧ s.2.2 = M.2 ∧ (∀ a, a < 380 ∨ 390 ≤ a → s.2.1 a = M.1 a) ∧ ∀ d e, d ≤ e → d < k → e < N → s.2.1 (380 + d) e = Int32.ofInt (if d = e then zSq (x c d) (y c d) (x (c - 1) d) (y (c - 1) d) else zSq (x c d) (y c d) (x c e) (y c e))) N
    (fun k s hk hs => by
      obtain ⟨v, Q⟩ := s
      obtain ⟨i1, i2, i3, i4⟩ := hs
      have i1 : v = Int32.ofInt (k : Int) := i1
      have i2 : Q.2 = M.2 := i2
      have i3 : ∀ a, a < 380 ∨ 390 ≤ a → Q.1 a = M.1 a := i3
      have i4 : ∀ d e, d ≤ e → d < k → e < N → Q.1 (380 + d) e = Int32.ofInt (if d = e then zSq (x c d) (y c d) (x (c - 1) d) (y (c - 1) d) else zSq (x c d) (y c d) (x c e) (y c e)) := i4
      subst i1
      obtain ⟨k1, k2⟩ := kRow (show k < 10 by omega)
      obtain ⟨r, e, w1, w2, w3⟩ := dlp_inv (f := fun q => dP2 q (fun v30 m31 => fX6_measure_l32 (Int32.ofInt N) (Int32.ofInt (k : Int)) v30 m31)) (Q := fun (r : dM) => r.2 = M.2 ∧ (∀ a, a < 380 ∨ 390 ≤ a → r.1 a = M.1 a) ∧ ∀ d e, d ≤ e → d < k + 1 → e < N → r.1 (380 + d) e = Int32.ofInt (if d = e then zSq (x c d) (y c d) (x (c - 1) d) (y (c - 1) d) else zSq (x c d) (y c d) (x c e) (y c e))) (fun j s => s.1 = Int32.ofInt ((k + 1 + j : Nat) : Int) ∧ s.2.2 = M.2 ∧ (∀ a, a < 380 ∨ 390 ≤ a → s.2.1 a = M.1 a) ∧ ∀ d e, d ≤ e → (d < k ∨ (d = k ∧ e < k + 1 + j)) → e < N → s.2.1 (380 + d) e = Int32.ofInt (if d = e then zSq (x c d) (y c d) (x (c - 1) d) (y (c - 1) d) else zSq (x c d) (y c d) (x c e) (y c e))) (N - (k + 1))
        (fun j s hj hs => by
          obtain ⟨v, Q⟩ := s
          obtain ⟨i1, i2, i3, i4⟩ := hs
          have i1 : v = Int32.ofInt ((k + 1 + j : Nat) : Int) := i1
          have i2 : Q.2 = M.2 := i2
          have i3 : ∀ a, a < 380 ∨ 390 ≤ a → Q.1 a = M.1 a := i3
          have i4 : ∀ d e, d ≤ e → (d < k ∨ (d = k ∧ e < k + 1 + j)) → e < N → Q.1 (380 + d) e = Int32.ofInt (if d = e then zSq (x c d) (y c d) (x (c - 1) d) (y (c - 1) d) else zSq (x c d) (y c d) (x c e) (y c e)) := i4
          subst i1
          have hk' := h k (by omega)
          have hj' := h (k + 1 + j) (by omega)
          refine Or.inl ⟨(Int32.ofInt ((k + 1 + (j + 1) : Nat) : Int), d1 Q (379 + 1 + k) (k + 1 + j) (Int32.ofInt (zSq (x c k) (y c k) (x c (k + 1 + j)) (y c (k + 1 + j))))), ?_, rfl, i2, fun a ha => ?_, fun d e hde hd he => ?_⟩
          · show fX6_measure_l32 (Int32.ofInt N) (Int32.ofInt (k : Int)) (Int32.ofInt ((k + 1 + j : Nat) : Int)) Q = _
            unfold fX6_measure_l32
            rw [if_neg (by rw [zi_le (by omega) (by omega) (by omega) (by omega)]; omega), kd379, dg_ok (dIx_nat (by omega) (by decide)), zi_cn (by omega), dg_ok k1, k2, zSqC kSp376 kSp376 (by omega) (by omega) (by rw [i3 377 (by omega)]; exact hk'.2.2.1) (by rw [i3 378 (by omega)]; exact hk'.2.2.2) (by rw [i3 377 (by omega)]; exact hj'.2.2.1) (by rw [i3 378 (by omega)]; exact hj'.2.2.2), Option.bind_some, dg_ok (dIx_nat (by omega) (by decide)), zi_cn (by omega), dlet_v, dlet_v, zi_1]; rfl
          · show (d1 Q _ _ _).1 a = _
            rw [zd1_ne (by omega)]; exact i3 a ha
          · show (d1 Q (379 + 1 + k) _ _).1 (380 + d) e = _
            by_cases w : d = k ∧ e = k + 1 + j
            · obtain ⟨rfl, rfl⟩ := w
              rw [show 379 + 1 + d = 380 + d by omega, zd1_at, if_neg (by omega)]
            · have : (d1 Q (379 + 1 + k) (k + 1 + j) (Int32.ofInt (zSq (x c k) (y c k) (x c (k + 1 + j)) (y c (k + 1 + j))))).1 (380 + d) e = Q.1 (380 + d) e := by
                by_cases w2 : d = k
                · rw [zd1_nk (by omega)]
                · rw [zd1_ne (by omega)]
              rw [this]
              exact i4 d e hde (by omega) he)
        (fun s hs => by
          obtain ⟨v, Q⟩ := s
          obtain ⟨i1, i2, i3, i4⟩ := hs
          have i1 : v = Int32.ofInt ((k + 1 + (N - (k + 1)) : Nat) : Int) := i1
          rw [show k + 1 + (N - (k + 1)) = N by omega] at i1
          subst i1
          refine ⟨Q, ?_, i2, i3, fun d e hde hd he => i4 d e hde (by omega) he⟩
          show fX6_measure_l32 (Int32.ofInt N) (Int32.ofInt (k : Int)) (Int32.ofInt (N : Int)) Q = _
          unfold fX6_measure_l32
          rw [if_pos (Int32.le_refl _)]) (N - (k + 1)) 0 dFl (Int32.ofInt ((k + 1 : Nat) : Int), d1 Q (379 + 1 + k) k (Int32.ofInt (zSq (x c k) (y c k) (x (c - 1) k) (y (c - 1) k)))) (by omega) (by show _ < 100000; omega) ⟨rfl, i2, fun a ha => by show (d1 Q _ _ _).1 a = _; rw [zd1_ne (by omega)]; exact i3 a ha, fun d e hde hd he => by
            show (d1 Q (379 + 1 + k) _ _).1 (380 + d) e = _
            by_cases w : d = k
            · obtain rfl : e = k := by omega
              subst w
              rw [show 379 + 1 + d = 380 + d by omega, zd1_at, if_pos rfl]
            · rw [zd1_ne (by omega)]; exact i4 d e hde (by omega) he⟩
      have hk' := h k (by omega)
      refine Or.inl ⟨(Int32.ofInt ((k + 1 : Nat) : Int), r), ?_, rfl, w1, w2, w3⟩
      show fX6_measure_l2 (Int32.ofInt N) (Int32.ofInt (k : Int)) Q = _
      unfold fX6_measure_l2
      rw [if_neg (by rw [zi_le (by omega) (by omega) (by omega) (by omega)]; omega), kd379, dg_ok (dIx_nat (by omega) (by decide)), zi_cn (by omega), dg_ok k1, k2, zSqC kSp376 kSp373 (by omega) (by omega) (by rw [i3 377 (by omega)]; exact hk'.2.2.1) (by rw [i3 378 (by omega)]; exact hk'.2.2.2) (by rw [i3 374 (by omega)]; exact hk'.1) (by rw [i3 375 (by omega)]; exact hk'.2.1), Option.bind_some, dg_ok (dIx_nat (by omega) (by decide)), dlet_v, zi_1, dlet_v, show ((k : Int) + 1) = ((k + 1 : Nat) : Int) from rfl, e]
      rfl)
    (fun s hs => by
      obtain ⟨v, Q⟩ := s
      obtain ⟨i1, i2⟩ := hs
      have i1 : v = Int32.ofInt (N : Int) := i1
      subst i1
      refine ⟨Q, ?_, i2⟩
      show fX6_measure_l2 (Int32.ofInt N) (Int32.ofInt (N : Int)) Q = _
      unfold fX6_measure_l2
      rw [if_pos (Int32.le_refl _)]) N 0 dFl (0, M) (by omega) (by show _ < 100000; omega) ⟨rfl, rfl, fun a _ => rfl, fun d e _ hd => by omega⟩
  refine ⟨r, by rw [e]; rfl, w1, w2, fun d hd => ?_, fun d hd => ?_, fun d e hde he => ?_⟩
  · rw [w2 374 (by omega), w2 375 (by omega), w2 377 (by omega), w2 378 (by omega)]; exact h d hd
  · rw [w3 d d (by omega) hd hd, if_pos rfl]
  · rw [w3 d e (by omega) (by omega) he, if_neg (by omega)]
theorem zRcM.to {m0 M M' : dM} {q : Option (Nat × Nat)} (h : zRcM m0 q M) (h2 : M'.2 = M.2) (h1 : ∀ a, a < 372 ∨ 390 ≤ a → M'.1 a = M.1 a) : zRcM m0 q M' := ⟨by rw [h2]; exact h.1, fun a ha => by rw [h1 a (by omega)]; exact h.2.1 a ha, fun k hk => by rw [h1 390 (by omega)]; exact h.2.2 k hk⟩
theorem fX6_look_ok {N S P : Nat} {le kn : Nat → Int} {il io : Nat → Bool} {sx sy : Nat → Nat → Int} {so : Nat → Nat} {co te : Nat → Int} {lt : Nat → Bool} {go : Nat → Nat → Nat} {m : dM} (hd : zDr N le kn) (hdc : zDc N le kn il io m) (hs : zSr N S sx sy) (hr : zPr N S P sx sy so co te lt go) (h : zPc N P sx sy so co te lt go m) {i n : Nat} (hi : i < P) (hn : co i = n) : ∃ M q, fX6_look m 372 (49 + 8 * i) 1 = some (390, M) ∧ zFirst (zFlt N (zMar kn il io) (zMo le (te i)) (zXc (zX sx so go) co i) (zXc (zX sy so go) co i)) n q ∧ zRcM m q M := by
  have hN := hd.2.1
  have hP := hr.1
  obtain ⟨r1, r2, r3, r4, r5, r6, r7⟩ := hr.2 i hi
  have hx := zXc_on hs hr hi hn
  unfold fX6_look fX1_number fX2_clear fX2_tell
  rw [dg_ok kRec, dg_ok (kPart (by omega)), dg_ok kDots, dg_ok kDots, hdc.1, Option.bind_some, show (10 : Int32) = Int32.ofInt 10 from rfl, if_neg (by rw [zi_lt (by omega) (by omega) (by omega) (by omega)]; omega), dlet_v, dg_ok kRcF, dg_ok kRcF, dlet_v, dlet_v, dlet_v, dlet_v, Option.bind_some, Option.bind_some]
  have h5 : zRcM m none (d1 (d1 (d1 (d1 m 390 0 (-1)) 390 1 (-1)) 390 2 (-1)) 390 3 (-1)) := by
    refine ⟨rfl, fun a ha => by rw [zd1_ne (by omega), zd1_ne (by omega), zd1_ne (by omega), zd1_ne (by omega)], fun k hk => ?_⟩
    match k, hk with
    | 0, _ => rw [zd1_nk (by decide), zd1_nk (by decide), zd1_nk (by decide), zd1_at]; rfl
    | 1, _ => rw [zd1_nk (by decide), zd1_nk (by decide), zd1_at]; rfl
    | 2, _ => rw [zd1_nk (by decide), zd1_at]; rfl
    | 3, _ => rw [zd1_at]; rfl
  generalize d1 (d1 (d1 (d1 m 390 0 (-1)) 390 1 (-1)) 390 2 (-1)) 390 3 (-1) = M5 at *
  have pc : ∀ {q : Option (Nat × Nat)} {M : dM}, zRcM m q M → zPc N P sx sy so co te lt go M := fun hM => h.to hP (fun a q1 q2 => hM.2.1 a (by omega))
  rw [show (0 : Int32) = Int32.ofInt 0 from rfl, fX5_stand_ok hN hs hr (pc h5) hi kSp373 (by omega) (by omega) (by omega), Option.bind_some]
  have h7 : zRcM m none (zW2 M5 (373 + 1) (373 + 2) 0 (zSt (zX sx so go) co i 0) (zSt (zX sy so go) co i 0) N) := ⟨h5.1, fun a ha => by rw [zW2_ne (by omega) (by omega)]; exact h5.2.1 a ha, fun k hk => by rw [zW2_ne (by omega) (by omega)]; exact h5.2.2 k hk⟩
  have b7 : ∀ d, d < N → (zW2 M5 (373 + 1) (373 + 2) 0 (zSt (zX sx so go) co i 0) (zSt (zX sy so go) co i 0) N).1 374 d = Int32.ofInt (zXc (zX sx so go) co i 0 d) ∧ (zW2 M5 (373 + 1) (373 + 2) 0 (zSt (zX sx so go) co i 0) (zSt (zX sy so go) co i 0) N).1 375 d = Int32.ofInt (zXc (zX sy so go) co i 0 d) := fun d hdN => by
    have e1 := zW2_a (m := M5) (a := 374) (b := 375) (o := 0) (f := zSt (zX sx so go) co i 0) (g := zSt (zX sy so go) co i 0) hdN
    have e2 := zW2_b (m := M5) (a := 374) (b := 375) (o := 0) (f := zSt (zX sx so go) co i 0) (g := zSt (zX sy so go) co i 0) (by decide) hdN
    rw [Nat.zero_add] at e1 e2
    exact ⟨e1, e2⟩
  generalize zW2 M5 (373 + 1) (373 + 2) 0 (zSt (zX sx so go) co i 0) (zSt (zX sy so go) co i 0) N = M7 at *
  obtain ⟨r, e, q', w1, w2⟩ := dlp_inv (f := fun q => dP2 q (fun v9 m10 => fX6_look_l30 372 (49 + 8 * i) 1 (Int32.ofInt N) v9 m10)) (Q := fun r => ∃ q', zRcM m q' r ∧ zFirst (zFlt N (zMar kn il io) (zMo le (te i)) (zXc (zX sx so go) co i) (zXc (zX sy so go) co i)) n q') (fun k s => s.1 = Int32.ofInt ((k + 1 : Nat) : Int) ∧ ∃ q', zRcM m q' s.2 ∧ (∀ d, d < N → s.2.1 374 d = Int32.ofInt (zXc (zX sx so go) co i k d) ∧ s.2.1 375 d = Int32.ofInt (zXc (zX sy so go) co i k d)) ∧ zRcS (zFlt N (zMar kn il io) (zMo le (te i)) (zXc (zX sx so go) co i) (zXc (zX sy so go) co i)) n (k + 1) 0 q') n
    (fun k s hk hs' => by
      obtain ⟨v, Q⟩ := s
      obtain ⟨i1, q1, i2, i3, i4⟩ := hs'
      have i1 : v = Int32.ofInt ((k + 1 : Nat) : Int) := i1
      have i2 : zRcM m q1 Q := i2
      have i3 : ∀ d, d < N → Q.1 374 d = Int32.ofInt (zXc (zX sx so go) co i k d) ∧ Q.1 375 d = Int32.ofInt (zXc (zX sy so go) co i k d) := i3
      subst i1
      show (∃ s', fX6_look_l30 372 (49 + 8 * i) 1 (Int32.ofInt N) (Int32.ofInt ((k + 1 : Nat) : Int)) Q = _ ∧ _) ∨ ∃ r, fX6_look_l30 372 (49 + 8 * i) 1 (Int32.ofInt N) (Int32.ofInt ((k + 1 : Nat) : Int)) Q = _ ∧ _
      unfold fX6_look_l30 fX5_counts
      rw [dg_ok (kPart (by omega)), Option.bind_some, ((pc i2).2 i hi).2.1, hn, if_neg (by rw [zi_lt (by omega) (by omega) (by omega) (by omega)]; omega), fX2_isFound_ok i2 i4 (by omega), Option.bind_some]
      by_cases w : q1 = none
      · subst w
        refine Or.inl ?_
        rw [if_pos rfl, if_pos rfl, fX5_stand_ok hN hs hr (pc i2) hi kSp376 (by omega) (by omega) (by omega), Option.bind_some]
        have j2 : zRcM m none (zW2 Q (376 + 1) (376 + 2) 0 (zSt (zX sx so go) co i ((k + 1 : Nat) : Int)) (zSt (zX sy so go) co i ((k + 1 : Nat) : Int)) N) := ⟨i2.1, fun a ha => by rw [zW2_ne (by omega) (by omega)]; exact i2.2.1 a ha, fun k hk => by rw [zW2_ne (by omega) (by omega)]; exact i2.2.2 k hk⟩
        have j3 : ∀ d, d < N → (zW2 Q (376 + 1) (376 + 2) 0 (zSt (zX sx so go) co i ((k + 1 : Nat) : Int)) (zSt (zX sy so go) co i ((k + 1 : Nat) : Int)) N).1 374 d = Int32.ofInt (zXc (zX sx so go) co i (k + 1 - 1) d) ∧ (zW2 Q (376 + 1) (376 + 2) 0 (zSt (zX sx so go) co i ((k + 1 : Nat) : Int)) (zSt (zX sy so go) co i ((k + 1 : Nat) : Int)) N).1 375 d = Int32.ofInt (zXc (zX sy so go) co i (k + 1 - 1) d) ∧ (zW2 Q (376 + 1) (376 + 2) 0 (zSt (zX sx so go) co i ((k + 1 : Nat) : Int)) (zSt (zX sy so go) co i ((k + 1 : Nat) : Int)) N).1 377 d = Int32.ofInt (zXc (zX sx so go) co i (k + 1) d) ∧ (zW2 Q (376 + 1) (376 + 2) 0 (zSt (zX sx so go) co i ((k + 1 : Nat) : Int)) (zSt (zX sy so go) co i ((k + 1 : Nat) : Int)) N).1 378 d = Int32.ofInt (zXc (zX sy so go) co i (k + 1) d) := fun d hdN => by
          have e1 := zW2_a (m := Q) (a := 377) (b := 378) (o := 0) (f := zSt (zX sx so go) co i ((k + 1 : Nat) : Int)) (g := zSt (zX sy so go) co i ((k + 1 : Nat) : Int)) hdN
          have e2 := zW2_b (m := Q) (a := 377) (b := 378) (o := 0) (f := zSt (zX sx so go) co i ((k + 1 : Nat) : Int)) (g := zSt (zX sy so go) co i ((k + 1 : Nat) : Int)) (by decide) hdN
          rw [Nat.zero_add] at e1 e2
          rw [zW2_ne (by decide) (by decide), zW2_ne (by decide) (by decide)]
          exact ⟨(i3 d hdN).1, (i3 d hdN).2, e1, e2⟩
        generalize zW2 Q (376 + 1) (376 + 2) 0 (zSt (zX sx so go) co i ((k + 1 : Nat) : Int)) (zSt (zX sy so go) co i ((k + 1 : Nat) : Int)) N = Q1 at *
        obtain ⟨Q2, u1, u2, u3, u4⟩ := fX6_measure_ok hN j3
        have y2 := j2.to u2 (fun a ha => u3 a (by omega))
        have t5 : Q2.1 (49 + 8 * i) 5 = Int32.ofInt (te i) := ((pc y2).2 i hi).2.2.1
        unfold fX5_tempo
        rw [u1, Option.bind_some, dg_ok (kPart (by omega)), t5, Option.bind_some]
        obtain ⟨Q3, q3, v1, v2, v3, v4⟩ := fX6_recountSteps_ok (t := te i) (c := k + 1) hd hdc hx r4 r5 (by omega) (by omega) (by omega) y2 u4 i4
        rw [v1, Option.bind_some]
        obtain ⟨Q4, q4, x1, x2, x3, x4⟩ := fX6_recountNear_ok (c := k + 1) hd hdc hx (by omega) (by omega) (by omega) v2 v3 v4
        rw [x1, Option.bind_some]
        obtain ⟨Q5, q5, z1, z2, z3, z4⟩ := fX6_recountCrossings_ok (c := k + 1) hd hdc hx (by omega) (by omega) (by omega) x2 x3 x4
        rw [z1, Option.bind_some, fX9_copy_ok kSp373 kSp376, Option.bind_some, dlet_v, zi_1]
        refine ⟨_, rfl, rfl, q5, z2.to zCp_x (fun a ha => zCp_ne (by omega) (by omega)), fun d hdN => ?_, ?_⟩
        · show (zCp Q5 373 376 10).1 (373 + 1) d = _ ∧ (zCp Q5 373 376 10).1 (373 + 2) d = _
          rw [zCp_1 (by omega), zCp_2 (by omega)]
          exact ⟨(z3.1 d hdN).2.2.1, (z3.1 d hdN).2.2.2⟩
        · rcases z4 with ⟨y1, y2, y3⟩ | y
          · refine Or.inl ⟨y1, fun c' d1 d2 z hz => ?_, fun z hz => by omega⟩
            by_cases w : c' = k + 1
            · subst w; exact y3 z hz
            · exact y2 c' d1 (by omega) z hz
          · exact Or.inr y
      · rw [if_neg w, if_neg z10]
        refine Or.inr ⟨Q, rfl, q1, i2, ?_⟩
        rcases i4 with i4 | i4
        · exact absurd i4.1 w
        · exact i4.2)
    (fun s hs' => by
      obtain ⟨v, Q⟩ := s
      obtain ⟨i1, q1, i2, i3, i4⟩ := hs'
      have i1 : v = Int32.ofInt ((n + 1 : Nat) : Int) := i1
      have i2 : zRcM m q1 Q := i2
      subst i1
      refine ⟨Q, ?_, q1, i2, ?_⟩
      · show fX6_look_l30 372 (49 + 8 * i) 1 (Int32.ofInt N) (Int32.ofInt ((n + 1 : Nat) : Int)) Q = _
        unfold fX6_look_l30 fX5_counts
        rw [dg_ok (kPart (by omega)), Option.bind_some, ((pc i2).2 i hi).2.1, hn, if_pos (by rw [zi_lt (by omega) (by omega) (by omega) (by omega)]; omega)]
      · rcases i4 with ⟨rfl, y2, y3⟩ | y
        · exact fun c d1 d2 z hz => y2 c d1 (by omega) z hz
        · exact y.2) n 0 dFl (1, M7) (by omega) (by show _ < 100000; omega) ⟨rfl, none, h7, b7, Or.inl ⟨rfl, fun c d1 d2 => by omega, fun z hz => by omega⟩⟩
  exact ⟨r, q', by rw [e]; rfl, w2, w1⟩
