theorem zSay_in {x y : Int} (x1 : 0 ≤ x) (x2 : x ≤ 1600) (y1 : 0 ≤ y) (y2 : y ≤ 840) (k : Nat) : -2000 ≤ zSay x y k ∧ zSay x y k ≤ 2000 := by
  match k with
  | 0 => show -2000 ≤ (x + 40) / 80 ∧ (x + 40) / 80 ≤ 2000; omega
  | 1 => show -2000 ≤ x - 80 * ((x + 40) / 80) ∧ x - 80 * ((x + 40) / 80) ≤ 2000; omega
  | 2 => show -2000 ≤ (y + 139) / 280 ∧ (y + 139) / 280 ≤ 2000; omega
  | k + 3 => show -2000 ≤ y - 280 * ((y + 139) / 280) ∧ y - 280 * ((y + 139) / 280) ≤ 2000; omega
def zEqs (a b x y : Int) : Nat → Bool | 0 => true | k + 1 => zEqs a b x y k && decide (zSay a b k = zSay x y k)
theorem zEqs_4 {a b x y : Int} : zEqs a b x y 4 = true ↔ a = x ∧ b = y := by
  show (((((true && decide (zSay a b 0 = zSay x y 0)) && decide (zSay a b 1 = zSay x y 1)) && decide (zSay a b 2 = zSay x y 2)) && decide (zSay a b 3 = zSay x y 3)) = true) ↔ _
  simp only [Bool.and_eq_true, decide_eq_true_eq, Bool.true_and]
  show ((((a + 40) / 80 = (x + 40) / 80 ∧ a - 80 * ((a + 40) / 80) = x - 80 * ((x + 40) / 80)) ∧ (b + 139) / 280 = (y + 139) / 280) ∧ b - 280 * ((b + 139) / 280) = y - 280 * ((y + 139) / 280)) ↔ _
  omega
def zChg (N P pp : Nat) (X Y px py : Nat → Nat → Int) (i d : Nat) : Int := if i < P ∧ d < N then (if i < pp ∧ d < N then (if px i d = X i d ∧ py i d = Y i d then 0 else 1) else 1) else (if i < pp ∧ d < N then 1 else 0)
theorem zChg_in {N P pp : Nat} {X Y px py : Nat → Nat → Int} {i d : Nat} : 0 ≤ zChg N P pp X Y px py i d ∧ zChg N P pp X Y px py i d ≤ 1 := by
  unfold zChg
  split
  · split
    · split <;> omega
    · omega
  · split <;> omega
def zRow (N P pp : Nat) (X Y px py : Nat → Nat → Int) (n : Nat) (i : Nat) : Int := zSum (fun d => zChg N P pp X Y px py i d) n
def zAllCh (N P pp : Nat) (X Y px py : Nat → Nat → Int) (n k : Nat) : Int := zSum (fun i => zRow N P pp X Y px py n i) k
theorem zSum_tail {f : Nat → Int} {c : Int} {n : Nat} : ∀ k : Nat, n ≤ k → (∀ i, n ≤ i → i < k → f i = c) → zSum f k = zSum f n + ((k : Int) - n) * c
  | 0, h, _ => by obtain rfl : n = 0 := by omega
                  show zSum f 0 = zSum f 0 + (((0 : Nat) : Int) - ((0 : Nat) : Int)) * c
                  simp
  | k + 1, h, q => by
    by_cases e : n = k + 1
    · subst e; rw [Int.sub_self, Int.zero_mul, Int.add_zero]
    · show zSum f k + f k = _
      rw [zSum_tail k (by omega) (fun i h1 h2 => q i h1 (by omega)), q k (by omega) (by omega)]
      have : ((k + 1 : Nat) : Int) - n = ((k : Int) - n) + 1 := by omega
      rw [this, Int.add_mul, Int.one_mul]; omega
theorem zRow_tail {N P pp : Nat} {X Y px py : Nat → Nat → Int} {i : Nat} (hN : N ≤ 10) : zRow N P pp X Y px py 10 i = zRow N P pp X Y px py N i := by
  have := zSum_tail (f := fun d => zChg N P pp X Y px py i d) (c := 0) (n := N) 10 hN (fun d h1 h2 => by
    show zChg N P pp X Y px py i d = 0
    unfold zChg
    rw [if_neg (by omega), if_neg (by omega)])
  rw [Int.mul_zero, Int.add_zero] at this
  exact this
theorem zAllCh_eq {N P pp : Nat} {X Y px py : Nat → Nat → Int} (hN : N ≤ 10) {a b : Nat} (hab : (a = P ∧ b = pp ∧ P ≤ pp) ∨ (a = pp ∧ b = P ∧ pp ≤ P)) (hb : b ≤ 12) : zAllCh N P pp X Y px py 10 12 = ((b : Int) - a) * N + zAllCh N P pp X Y px py N a := by
  have e1 : zAllCh N P pp X Y px py 10 12 = zAllCh N P pp X Y px py N 12 := zSum_congr 12 (fun i _ => zRow_tail hN)
  have e2 : zAllCh N P pp X Y px py N 12 = zAllCh N P pp X Y px py N b := by
    have := zSum_tail (f := fun i => zRow N P pp X Y px py N i) (c := 0) (n := b) 12 hb (fun i h1 h2 => by
      have : zSum (fun d => zChg N P pp X Y px py i d) N = zSum (fun _ => 0) N := zSum_congr N (fun d hd => by
        show zChg N P pp X Y px py i d = 0
        unfold zChg
        rw [if_neg (by omega), if_neg (by omega)])
      show zSum (fun d => zChg N P pp X Y px py i d) N = 0
      rw [this, zSum_0])
    rw [Int.mul_zero, Int.add_zero] at this
    exact this
  have e3 : zAllCh N P pp X Y px py N b = zAllCh N P pp X Y px py N a + ((b : Int) - a) * N := zSum_tail (f := fun i => zRow N P pp X Y px py N i) (c := (N : Int)) (n := a) b (by omega) (fun i h1 h2 => by
    have : zSum (fun d => zChg N P pp X Y px py i d) N = zSum (fun _ => 1) N := zSum_congr N (fun d hd => by
        show zChg N P pp X Y px py i d = 1
        unfold zChg
        by_cases q : i < P
        · rw [if_pos (by omega), if_neg (by omega)]
        · rw [if_neg (by omega), if_pos (by omega)])
    show zSum (fun d => zChg N P pp X Y px py i d) N = N
    rw [this]
    have := zSum_tail (f := fun _ => 1) (c := 1) (n := 0) N (by omega) (fun _ _ _ => rfl)
    rw [this]
    show (0 : Int) + ((N : Int) - ((0 : Nat) : Int)) * 1 = N
    omega)
  rw [e1, e2, e3, Int.add_comm]
theorem zSq_z {a b c d : Int} : zSq a b c d = 0 ↔ a = c ∧ b = d := by
  have sq : ∀ x : Int, 0 ≤ x * x ∧ (x * x = 0 → x = 0) := fun x => ⟨by
    rcases Int.lt_or_le x 0 with q | q
    · have := Int.mul_pos_of_neg_of_neg q q; omega
    · exact Int.mul_nonneg q q, fun h => by rcases Int.mul_eq_zero.mp h with q | q <;> exact q⟩
  unfold zSq
  have h1 := sq (a - c)
  have h2 := sq (b - d)
  constructor
  · intro h
    have := h1.2 (by omega)
    have := h2.2 (by omega)
    omega
  · rintro ⟨rfl, rfl⟩; simp
theorem kSpP {i : Nat} (h : i < 12) : zSp (396 + 3 * i) := by
  have : ∀ s : Fin 12, dkg (396 + 3 * s.val) 10 = true ∧ dL (396 + 3 * s.val + 1) = 10 ∧ dL (396 + 3 * s.val + 2) = 10 ∧ dK (396 + 3 * s.val + 1) = 20 ∧ dK (396 + 3 * s.val + 2) = 20 := by decide +kernel
  exact this ⟨i, h⟩
theorem fX3_publishedOf_ok {m : dM} {i : Nat} (h : i < 12) : fX3_publishedOf m 394 (Int32.ofInt i) = some (396 + 3 * i) := by
  unfold fX3_publishedOf
  have k := (kSpP h).1
  rw [dg_ok kPages, show fX11_isWithin m (Int32.ofInt i) 0 11 = _ from fX11_isWithin_ok m (b := 0) (c := 11) (by omega) (by omega) (by omega) (by omega) (by omega) (by omega), Option.bind_some, if_pos (show (0 : Int) ≤ i ∧ (i : Int) ≤ 11 by omega), if_neg z10, show dL 395 = 12 by decide +kernel, dg_ok (dIx_nat h (by decide)), zi_cn (by omega), show 395 + 1 + 3 * i = 396 + 3 * i by omega, dg_ok k, dg_ok (dIx_nat h (by decide)), dg_ok k]
theorem fX5_ends_ok {m : dM} {i : Nat} (h : i < 12) : fX5_ends m (49 + 8 * i) = some (49 + 8 * i + 4) := by
  unfold fX5_ends; rw [dg_ok (kPart h)]
theorem fX3_countUnlike_ok {N S P pp : Nat} {le kn : Nat → Int} {il io : Nat → Bool} {sx sy : Nat → Nat → Int} {so : Nat → Nat} {co te : Nat → Int} {lt : Nat → Bool} {go : Nat → Nat → Nat} {px py : Nat → Nat → Int} {m : dM} (hd : zDr N le kn) (hs : zSr N S sx sy) (hr : zPr N S P sx sy so co te lt go) (h : zPc N P sx sy so co te lt go m) (hg : zGr N S pp px py) (hgc : zGc N pp px py m) : fX3_countUnlike m 394 47 (Int32.ofInt N) = some (Int32.ofInt (zAllCh N P pp (zX sx so go) (zX sy so go) px py 10 12)) := by
  have hN := hd.2.1
  have hP := hr.1
  have hp := hg.1
  obtain ⟨a, b, hab, emin, emax⟩ : ∃ a b : Nat, ((a = P ∧ b = pp ∧ P ≤ pp) ∨ (a = pp ∧ b = P ∧ pp ≤ P)) ∧ (if Int32.ofInt (P : Int) < Int32.ofInt (pp : Int) then Int32.ofInt (P : Int) else Int32.ofInt (pp : Int)) = Int32.ofInt (a : Int) ∧ (if Int32.ofInt (pp : Int) < Int32.ofInt (P : Int) then Int32.ofInt (P : Int) else Int32.ofInt (pp : Int)) = Int32.ofInt (b : Int) := by
    by_cases c : P < pp
    · refine ⟨P, pp, Or.inl ⟨rfl, rfl, by omega⟩, ?_, ?_⟩
      · rw [if_pos (by rw [zi_lt (by omega) (by omega) (by omega) (by omega)]; omega)]
      · rw [if_neg (by rw [zi_lt (by omega) (by omega) (by omega) (by omega)]; omega)]
    · refine ⟨pp, P, Or.inr ⟨rfl, rfl, by omega⟩, ?_, ?_⟩
      · rw [if_neg (by rw [zi_lt (by omega) (by omega) (by omega) (by omega)]; omega)]
      · by_cases c2 : pp < P
        · rw [if_pos (by rw [zi_lt (by omega) (by omega) (by omega) (by omega)]; omega)]
        · rw [if_neg (by rw [zi_lt (by omega) (by omega) (by omega) (by omega)]; omega), show pp = P by omega]
  unfold fX3_countUnlike fX8_number
  rw [dg_ok kPages, dg_ok kShow, dg_ok kShow, h.1, hgc.1, Option.bind_some, emin, dlet_v, Option.bind_some, emax, dlet_v, zi_sub, zi_mul, zAllCh_eq hN hab (by omega)]
  generalize ((b : Int) - a) * N = B
  have e := dlp_for (f := fun q => dP2 q (fun v8 v9 => fX3_countUnlike_l32 m 394 47 (Int32.ofInt N) (Int32.ofInt (a : Int)) v8 v9)) (r := Int32.ofInt (B + zAllCh N P pp (zX sx so go) (zX sy so go) px py N a)) (fun k => (Int32.ofInt (k : Int), Int32.ofInt (B + zAllCh N P pp (zX sx so go) (zX sy so go) px py N k))) a 0 a dFl (by omega) (by show a < 100000; omega) (fun i _ hi => by
    show fX3_countUnlike_l32 m 394 47 (Int32.ofInt N) (Int32.ofInt (a : Int)) (Int32.ofInt (i : Int)) (Int32.ofInt (B + zAllCh N P pp (zX sx so go) (zX sy so go) px py N i)) = some (.inl (Int32.ofInt ((i + 1 : Nat) : Int), Int32.ofInt (B + (zAllCh N P pp (zX sx so go) (zX sy so go) px py N i + zRow N P pp (zX sx so go) (zX sy so go) px py N i))))
    unfold fX3_countUnlike_l32
    rw [if_neg (by rw [zi_le (by omega) (by omega) (by omega) (by omega)]; omega), ← Int.add_assoc]
    generalize B + zAllCh N P pp (zX sx so go) (zX sy so go) px py N i = A
    have e := dlp_for (f := fun q => dP2 q (fun v44 v45 => fX3_countUnlike_l41 m 394 47 (Int32.ofInt N) (Int32.ofInt (i : Int)) v44 v45)) (r := Int32.ofInt (A + zRow N P pp (zX sx so go) (zX sy so go) px py N i)) (fun k => (Int32.ofInt (k : Int), Int32.ofInt (A + zRow N P pp (zX sx so go) (zX sy so go) px py k i))) N 0 N dFl (by omega) (by show N < 100000; omega) (fun d _ hdN => by
      show fX3_countUnlike_l41 m 394 47 (Int32.ofInt N) (Int32.ofInt (i : Int)) (Int32.ofInt (d : Int)) (Int32.ofInt (A + zRow N P pp (zX sx so go) (zX sy so go) px py d i)) = some (.inl (Int32.ofInt ((d + 1 : Nat) : Int), Int32.ofInt (A + (zRow N P pp (zX sx so go) (zX sy so go) px py d i + zChg N P pp (zX sx so go) (zX sy so go) px py i d))))
      have i12 : i < 12 := by omega
      have c5 := (h.2 i (by omega)).2.2.2.2 d hdN
      have g5 := hgc.2 i (by omega) d hdN
      obtain ⟨b1, b2⟩ := zX_in hs hr (show i < P by omega) hdN
      obtain ⟨b3, b4, b5, b6⟩ := hg.2.2 i (by omega) d hdN
      unfold fX3_countUnlike_l41
      rw [if_neg (by rw [zi_le (by omega) (by omega) (by omega) (by omega)]; omega), fX3_publishedOf_ok i12, Option.bind_some, dg_ok (kSpP i12).1, fX8_numbered_ok i12, Option.bind_some, dg_ok (kPart i12), fX5_ends_ok i12, Option.bind_some, dg_ok (kPst i12).2.1.1, fX9_squareTo_ok (kSpP i12) (kPst i12).2.1 (by omega) (by omega), Option.bind_some, g5.1, g5.2, c5.2.1, c5.2.2.1, zi_sub, zi_sub, zi_mul, zi_mul, zi_add, show (1 : Int32) = Int32.ofInt 1 from rfl, show (0 : Int32) = Int32.ofInt 0 from rfl, zi_add, zi_add, ← Int.add_assoc]
      have bd := zSq_in (a := px i d) (b := py i d) (c := zX sx so go i d) (d := zX sy so go i d) (by omega) (by omega) (by omega) (by omega) (by omega) (by omega) (by omega) (by omega)
      have zz := zSq_z (a := px i d) (b := py i d) (c := zX sx so go i d) (d := zX sy so go i d)
      rw [show (px i d - zX sx so go i d) * (px i d - zX sx so go i d) + (py i d - zX sy so go i d) * (py i d - zX sy so go i d) = zSq (px i d) (py i d) (zX sx so go i d) (zX sy so go i d) from rfl]
      have ch : zChg N P pp (zX sx so go) (zX sy so go) px py i d = if zSq (px i d) (py i d) (zX sx so go i d) (zX sy so go i d) = 0 then 0 else 1 := by
        unfold zChg
        rw [if_pos (by omega), if_pos (by omega)]
        by_cases q : px i d = zX sx so go i d ∧ py i d = zX sy so go i d
        · rw [if_pos q, if_pos (zz.mpr q)]
        · rw [if_neg q, if_neg (fun w => q (zz.mp w))]
      rw [ch]
      by_cases q : zSq (px i d) (py i d) (zX sx so go i d) (zX sy so go i d) = 0
      · rw [if_pos (by rw [q]), if_pos q, Int.add_zero]; rfl
      · rw [if_neg (by rw [zi_eq (by omega) (by omega) (by omega) (by omega)]; exact q), if_neg q]; rfl) (by
      show fX3_countUnlike_l41 m 394 47 (Int32.ofInt N) (Int32.ofInt (i : Int)) (Int32.ofInt (N : Int)) _ = _
      unfold fX3_countUnlike_l41
      rw [if_pos (Int32.le_refl _)])
    rw [show ((0 : Int32), Int32.ofInt A) = (Int32.ofInt ((0 : Nat) : Int), Int32.ofInt (A + zRow N P pp (zX sx so go) (zX sy so go) px py 0 i)) by rw [show zRow N P pp (zX sx so go) (zX sy so go) px py 0 i = 0 from rfl, Int.add_zero]; rfl, e, Option.bind_some]
    show dlet _ _ = _
    rw [dlet_v, show (1 : Int32) = Int32.ofInt 1 from rfl, zi_add]; rfl) (by
    show fX3_countUnlike_l32 m 394 47 (Int32.ofInt N) (Int32.ofInt (a : Int)) (Int32.ofInt (a : Int)) _ = _
    unfold fX3_countUnlike_l32
    rw [if_pos (Int32.le_refl _)])
  rw [show ((0 : Int32), Int32.ofInt B) = (Int32.ofInt ((0 : Nat) : Int), Int32.ofInt (B + zAllCh N P pp (zX sx so go) (zX sy so go) px py N 0)) by rw [show zAllCh N P pp (zX sx so go) (zX sy so go) px py N 0 = 0 from rfl, Int.add_zero]; rfl, e]
  rfl
theorem fX3_keep_ok {N S P : Nat} {sx sy : Nat → Nat → Int} {so : Nat → Nat} {co te : Nat → Int} {lt : Nat → Bool} {go : Nat → Nat → Nat} {m : dM} (hr : zPr N S P sx sy so co te lt go) (h : zPc N P sx sy so co te lt go m) : ∃ m', fX3_keep m 394 47 = some m' ∧ m'.2 = m.2 ∧ (∀ a, a < 394 ∨ 432 ≤ a → m'.1 a = m.1 a) ∧ m'.1 394 2 = Int32.ofInt P ∧ ∀ i, i < P → ∀ j, j < 10 → m'.1 (396 + 3 * i + 1) j = m.1 (49 + 8 * i + 4 + 1) j ∧ m'.1 (396 + 3 * i + 2) j = m.1 (49 + 8 * i + 4 + 2) j := by
  have hP := hr.1
  unfold fX3_keep fX8_number
  rw [dg_ok kPages, dg_ok kShow, dg_ok kShow, h.1, Option.bind_some, dlet_v]
  obtain ⟨r, e, q1, q2, q3⟩ := dlp_inv (f := fun q => dP2 q (fun v5 m6 => fX3_keep_l10 394 47 v5 m6)) (Q := fun (r : dM) => r.2 = m.2 ∧ (∀ a, a < 396 ∨ 432 ≤ a → r.1 a = (d1 m 394 2 (Int32.ofInt P)).1 a) ∧ ∀ i, i < P → ∀ j, j < 10 → r.1 (396 + 3 * i + 1) j = m.1 (49 + 8 * i + 4 + 1) j ∧ r.1 (396 + 3 * i + 2) j = m.1 (49 + 8 * i + 4 + 2) j) (fun k s => s.1 = Int32.ofInt (k : Int) ∧ s.2.2 = m.2 ∧ (∀ a, a < 396 ∨ 432 ≤ a → s.2.1 a = (d1 m 394 2 (Int32.ofInt P)).1 a) ∧ ∀ i, i < k → ∀ j, j < 10 → s.2.1 (396 + 3 * i + 1) j = m.1 (49 + 8 * i + 4 + 1) j ∧ s.2.1 (396 + 3 * i + 2) j = m.1 (49 + 8 * i + 4 + 2) j) P
    (fun k s hk hs => by
      obtain ⟨v, M⟩ := s
      obtain ⟨i1, i2, i3, i4⟩ := hs
      have i1 : v = Int32.ofInt (k : Int) := i1
      have i2 : M.2 = m.2 := i2
      have i3 : ∀ a, a < 396 ∨ 432 ≤ a → M.1 a = (d1 m 394 2 (Int32.ofInt P)).1 a := i3
      have i4 : ∀ i, i < k → ∀ j, j < 10 → M.1 (396 + 3 * i + 1) j = m.1 (49 + 8 * i + 4 + 1) j ∧ M.1 (396 + 3 * i + 2) j = m.1 (49 + 8 * i + 4 + 2) j := i4
      subst i1
      have k12 : k < 12 := by omega
      refine Or.inl ⟨(Int32.ofInt ((k + 1 : Nat) : Int), zCp M (396 + 3 * k) (49 + 8 * k + 4) 10), ?_, rfl, i2, fun a ha => ?_, fun i hi j hj => ?_⟩
      · show fX3_keep_l10 394 47 (Int32.ofInt (k : Int)) M = _
        unfold fX3_keep_l10
        rw [i3 394 (by omega), zd1_at, if_neg (by rw [zi_le (by omega) (by omega) (by omega) (by omega)]; omega), fX3_publishedOf_ok k12, Option.bind_some, dg_ok (kSpP k12).1, fX8_numbered_ok k12, Option.bind_some, dg_ok (kPart k12), fX5_ends_ok k12, Option.bind_some, dg_ok (kPst k12).2.1.1, fX9_copy_ok (kSpP k12) (kPst k12).2.1, Option.bind_some, dlet_v, show (1 : Int32) = Int32.ofInt 1 from rfl, zi_add]
        rfl
      · show (zCp M (396 + 3 * k) (49 + 8 * k + 4) 10).1 a = _
        rw [zCp_ne (by omega) (by omega)]; exact i3 a ha
      · show (zCp M (396 + 3 * k) (49 + 8 * k + 4) 10).1 (396 + 3 * i + 1) j = _ ∧ (zCp M (396 + 3 * k) (49 + 8 * k + 4) 10).1 (396 + 3 * i + 2) j = _
        by_cases c : i = k
        · subst c
          rw [zCp_1 hj, zCp_2 hj, i3 _ (by omega), i3 _ (by omega), zd1_ne (by omega), zd1_ne (by omega)]
          exact ⟨rfl, rfl⟩
        · rw [zCp_ne (by omega) (by omega), zCp_ne (by omega) (by omega)]
          exact i4 i (by omega) j hj)
    (fun s hs => by
      obtain ⟨v, M⟩ := s
      obtain ⟨i1, i2, i3, i4⟩ := hs
      have i1 : v = Int32.ofInt (P : Int) := i1
      subst i1
      refine ⟨M, ?_, i2, i3, i4⟩
      show fX3_keep_l10 394 47 (Int32.ofInt (P : Int)) M = _
      have i3 : ∀ a, a < 396 ∨ 432 ≤ a → M.1 a = (d1 m 394 2 (Int32.ofInt P)).1 a := i3
      unfold fX3_keep_l10
      rw [i3 394 (by omega), zd1_at, if_pos (Int32.le_refl _)]) P 0 dFl (0, d1 m 394 2 (Int32.ofInt P)) (by omega) (by show P < 100000; omega) ⟨rfl, rfl, fun a _ => rfl, fun i hi => by omega⟩
  refine ⟨r, by rw [e]; rfl, q1, fun a ha => ?_, ?_, q3⟩
  · rw [q2 a (by omega), zd1_ne (by omega)]
  · rw [q2 394 (by omega), zd1_at]
