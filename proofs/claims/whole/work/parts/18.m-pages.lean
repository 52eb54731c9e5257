/-! changed: the reference's half -/
theorem zSay_in {x y : Int} (x1 : 0 ≤ x) (x2 : x ≤ 1600) (y1 : 0 ≤ y) (y2 : y ≤ 840) (k : Nat) : -2000 ≤ zSay x y k ∧ zSay x y k ≤ 2000 := by
  match k with
  | 0 => show -2000 ≤ (x + 40) / 80 ∧ (x + 40) / 80 ≤ 2000; omega
  | 1 => show -2000 ≤ x - 80 * ((x + 40) / 80) ∧ x - 80 * ((x + 40) / 80) ≤ 2000; omega
  | 2 => show -2000 ≤ (y + 139) / 280 ∧ (y + 139) / 280 ≤ 2000; omega
  | k + 3 => show -2000 ≤ y - 280 * ((y + 139) / 280) ∧ y - 280 * ((y + 139) / 280) ≤ 2000; omega
def zEqs (a b x y : Int) : Nat → Bool | 0 => true | k + 1 => zEqs a b x y k && decide (zSay a b k = zSay x y k)
theorem zEqs_4 {a b x y : Int} : zEqs a b x y 4 = true ↔ a = x ∧ b = y := by
  show (((((true && decide (zSay a b 0 = zSay x y 0)) && decide (zSay a b 1 = zSay x y 1)) && decide (zSay a b 2 = zSay x y 2)) && decide (zSay a b 3 = zSay x y 3)) = true) ↔ _
  simp only [Bool.and_eq_true, decide_eq_true_eq, Bool.true_and]
  show ((((a + 40) / 80 = (x + 40) / 80 ∧ a - 80 * ((a + 40) / 80) = x - 80 * ((x + 40) / 80)) ∧ (b + 139) / 280 = (y + 139) / 280) ∧ b - 280 * ((b + 139) / 280) = y - 280 * ((y + 139) / 280)) ↔ _
  omega
def zChg (N P pp : Nat) (X Y px py : Nat → Nat → Int) (i d : Nat) : Int := if i < P ∧ d < N then (if i < pp ∧ d < N then (if px i d = X i d ∧ py i d = Y i d then 0 else 1) else 1) else (if i < pp ∧ d < N then 1 else 0)
theorem zChg_in {N P pp : Nat} {X Y px py : Nat → Nat → Int} {i d : Nat} : 0 ≤ zChg N P pp X Y px py i d ∧ zChg N P pp X Y px py i d ≤ 1 := by
  unfold zChg
  split
  · split
    · split <;> omega
    · omega
  · split <;> omega
theorem kd457 : dL 457 = 480 := by decide +kernel
theorem kd458 : dL 458 = 120 := by decide +kernel
theorem fX12_isChanged_ok {N S P pp : Nat} {le kn : Nat → Int} {il io : Nat → Bool} {sx sy : Nat → Nat → Int} {so : Nat → Nat} {co te : Nat → Int} {lt : Nat → Bool} {go : Nat → Nat → Nat} {px py : Nat → Nat → Int} {m : dM} (hd : zDr N le kn) (hdm : zDm N le kn il io m) (hs : zSr N S sx sy) (hm : zSm N S sx sy m) (hr : zPr N S P sx sy so co te lt go) (h : zPm N P so co te lt go m) (hg : zGr N S pp px py) (hgm : zGm N pp px py m) {i d : Nat} (hi : i < 12) (hd10 : d < 10) : fX12_isChanged m 444 (Int32.ofInt i) (Int32.ofInt d) = some (Int32.ofInt (zChg N P pp (zX sx so go) (zX sy so go) px py i d)) := by
  have hN := hd.2.1
  have hP := hr.1
  have hf := hgm.1 i hi d hd10
  unfold fX12_isChanged
  rw [dg_ok kM, zi_10, dlet_v, fX12_isPart_ok hr h (by omega) (by omega), Option.bind_some, fX12_isDot_ok hd hdm (by omega) (by omega), Option.bind_some, kd458, dg_ok (dIx_nat (by omega) (by decide)), dg_ok (dIx_nat (by omega) (by decide)), zi_cn (by omega), hf]
  have old : (if zB (decide (i < pp ∧ d < N)) = 0 then (some 0 : Option Int32) else some 1) = some (Int32.ofInt (if i < pp ∧ d < N then 1 else 0)) := by
    by_cases q : i < pp ∧ d < N
    · rw [if_pos q, decide_eq_true q]; rfl
    · rw [if_neg q, decide_eq_false q]; rfl
  rw [old]
  unfold zChg
  by_cases c1 : (0 : Int) ≤ i ∧ (i : Int) < P
  · rw [if_pos c1, if_neg z10]
    by_cases c2 : (0 : Int) ≤ d ∧ (d : Int) < N
    · rw [if_pos c2, if_neg z10, if_pos (show i < P ∧ d < N by omega)]
      by_cases c3 : i < pp ∧ d < N
      · rw [decide_eq_true c3, if_neg (show ¬ zB true = 0 by decide), if_pos c3]
        obtain ⟨b1, b2⟩ := zX_in hs hr (show i < P by omega) (show d < N by omega)
        obtain ⟨b3, b4, b5, b6⟩ := hg.2.2 i c3.1 d c3.2
        have e := dlp_for (f := fun q => dP2 q (fun v7 v8 => fX12_isChanged_l70 m 444 (Int32.ofInt i) (Int32.ofInt d) (Int32.ofInt ((10 * i + d : Nat) : Int)) v7 v8)) (r := zB (zEqs (px i d) (py i d) (zX sx so go i d) (zX sy so go i d) 4)) (fun k => (Int32.ofInt (k : Int), zB (zEqs (px i d) (py i d) (zX sx so go i d) (zX sy so go i d) k))) 4 0 4 dFl (by omega) (by decide) (fun k _ hk => by
          show fX12_isChanged_l70 m 444 (Int32.ofInt i) (Int32.ofInt d) (Int32.ofInt ((10 * i + d : Nat) : Int)) (Int32.ofInt (k : Int)) (zB (zEqs (px i d) (py i d) (zX sx so go i d) (zX sy so go i d) k)) = some (.inl (Int32.ofInt ((k + 1 : Nat) : Int), zB (zEqs (px i d) (py i d) (zX sx so go i d) (zX sy so go i d) k && decide (zSay (px i d) (py i d) k = zSay (zX sx so go i d) (zX sy so go i d) k))))
          have w1 := zSay_in b3 b4 b5 b6 k
          have w2 := zSay_in b1.1 b1.2 b2.1 b2.2 k
          unfold fX12_isChanged_l70
          rw [zi_4, if_neg (by rw [show (4 : Int32) = Int32.ofInt 4 from rfl, zi_le (by omega) (by omega) (by omega) (by omega)]; omega), kd457, dg_ok (dIx_nat (by omega) (by decide)), fX12_says_ok hN hs hm hr h (by omega) (by omega) hk, Option.bind_some, zi_cn (by omega), hgm.2 i c3.1 d c3.2 k hk]
          by_cases q : zSay (px i d) (py i d) k = zSay (zX sx so go i d) (zX sy so go i d) k
          · rw [if_pos (by rw [q]), dlet_v, dlet_v, decide_eq_true q, show (1 : Int32) = Int32.ofInt 1 from rfl, zi_add, show Int32.ofInt 1 = zB true from rfl, zB_and]; rfl
          · rw [if_neg (by rw [zi_eq (by omega) (by omega) (by omega) (by omega)]; exact q), dlet_v, dlet_v, decide_eq_false q, show (1 : Int32) = Int32.ofInt 1 from rfl, zi_add, show (0 : Int32) = zB false from rfl, zB_and]; rfl) (by
          show fX12_isChanged_l70 m 444 (Int32.ofInt i) (Int32.ofInt d) (Int32.ofInt ((10 * i + d : Nat) : Int)) (Int32.ofInt ((4 : Nat) : Int)) _ = _
          unfold fX12_isChanged_l70
          rw [if_pos (by decide)])
        rw [show ((0 : Int32), (1 : Int32)) = (Int32.ofInt ((0 : Nat) : Int), zB (zEqs (px i d) (py i d) (zX sx so go i d) (zX sy so go i d) 0)) from rfl, e, Option.bind_some]
        by_cases q : px i d = zX sx so go i d ∧ py i d = zX sy so go i d
        · rw [zEqs_4.mpr q, if_pos q]; rfl
        · have : zEqs (px i d) (py i d) (zX sx so go i d) (zX sy so go i d) 4 = false := by
            cases w : zEqs (px i d) (py i d) (zX sx so go i d) (zX sy so go i d) 4
            · rfl
            · exact absurd (zEqs_4.mp w) q
          rw [this, if_neg q]; rfl
      · rw [decide_eq_false c3, if_pos (show zB false = 0 from rfl), if_neg c3]; rfl
    · rw [if_neg c2, if_pos rfl, if_neg (show ¬ (i < P ∧ d < N) by omega)]
  · rw [if_neg c1, if_pos rfl, if_neg (show ¬ (i < P ∧ d < N) by omega)]
def zRow (N P pp : Nat) (X Y px py : Nat → Nat → Int) (n : Nat) (i : Nat) : Int := zSum (fun d => zChg N P pp X Y px py i d) n
def zAllCh (N P pp : Nat) (X Y px py : Nat → Nat → Int) (n k : Nat) : Int := zSum (fun i => zRow N P pp X Y px py n i) k
theorem fX12_changes_ok {N S P pp : Nat} {le kn : Nat → Int} {il io : Nat → Bool} {sx sy : Nat → Nat → Int} {so : Nat → Nat} {co te : Nat → Int} {lt : Nat → Bool} {go : Nat → Nat → Nat} {px py : Nat → Nat → Int} {m : dM} (hd : zDr N le kn) (hdm : zDm N le kn il io m) (hs : zSr N S sx sy) (hm : zSm N S sx sy m) (hr : zPr N S P sx sy so co te lt go) (h : zPm N P so co te lt go m) (hg : zGr N S pp px py) (hgm : zGm N pp px py m) : fX12_changes m 444 = some (Int32.ofInt (zAllCh N P pp (zX sx so go) (zX sy so go) px py 10 12)) := by
  unfold fX12_changes
  rw [dg_ok kM]
  have e := dlp_for (f := fun q => dP2 q (fun v2 v3 => fX12_changes_l4 m 444 v2 v3)) (r := Int32.ofInt (zAllCh N P pp (zX sx so go) (zX sy so go) px py 10 12)) (fun k => (Int32.ofInt (k : Int), Int32.ofInt (zAllCh N P pp (zX sx so go) (zX sy so go) px py 10 k))) 12 0 12 dFl (by omega) (by decide) (fun i _ hi => by
    show fX12_changes_l4 m 444 (Int32.ofInt (i : Int)) (Int32.ofInt (zAllCh N P pp (zX sx so go) (zX sy so go) px py 10 i)) = some (.inl (Int32.ofInt ((i + 1 : Nat) : Int), Int32.ofInt (zAllCh N P pp (zX sx so go) (zX sy so go) px py 10 i + zRow N P pp (zX sx so go) (zX sy so go) px py 10 i)))
    unfold fX12_changes_l4
    rw [if_neg (by rw [show (12 : Int32) = Int32.ofInt 12 from rfl, zi_le (by omega) (by omega) (by omega) (by omega)]; omega)]
    generalize zAllCh N P pp (zX sx so go) (zX sy so go) px py 10 i = A
    have e := dlp_for (f := fun q => dP2 q (fun v22 v23 => fX12_changes_l12 m 444 (Int32.ofInt (i : Int)) v22 v23)) (r := Int32.ofInt (A + zRow N P pp (zX sx so go) (zX sy so go) px py 10 i)) (fun k => (Int32.ofInt (k : Int), Int32.ofInt (A + zRow N P pp (zX sx so go) (zX sy so go) px py k i))) 10 0 10 dFl (by omega) (by decide) (fun d _ hd10 => by
      show fX12_changes_l12 m 444 (Int32.ofInt (i : Int)) (Int32.ofInt (d : Int)) (Int32.ofInt (A + zRow N P pp (zX sx so go) (zX sy so go) px py d i)) = some (.inl (Int32.ofInt ((d + 1 : Nat) : Int), Int32.ofInt (A + (zRow N P pp (zX sx so go) (zX sy so go) px py d i + zChg N P pp (zX sx so go) (zX sy so go) px py i d))))
      unfold fX12_changes_l12
      rw [if_neg (by rw [show (10 : Int32) = Int32.ofInt 10 from rfl, zi_le (by omega) (by omega) (by omega) (by omega)]; omega), fX12_isChanged_ok hd hdm hs hm hr h hg hgm hi hd10, Option.bind_some, show (1 : Int32) = Int32.ofInt 1 from rfl, show (0 : Int32) = Int32.ofInt 0 from rfl, zi_add, zi_add, zi_add]
      have b := zChg_in (N := N) (P := P) (pp := pp) (X := zX sx so go) (Y := zX sy so go) (px := px) (py := py) (i := i) (d := d)
      generalize zChg N P pp (zX sx so go) (zX sy so go) px py i d = z at *
      rw [← Int.add_assoc]
      by_cases q : z = 0
      · subst q; rw [if_pos rfl]; rfl
      · obtain rfl : z = 1 := by omega
        rw [if_neg (by decide)]; rfl) (by
      show fX12_changes_l12 m 444 (Int32.ofInt (i : Int)) (Int32.ofInt ((10 : Nat) : Int)) _ = _
      unfold fX12_changes_l12
      rw [if_pos (by decide)])
    rw [show ((0 : Int32), Int32.ofInt A) = (Int32.ofInt ((0 : Nat) : Int), Int32.ofInt (A + zRow N P pp (zX sx so go) (zX sy so go) px py 0 i)) by rw [show zRow N P pp (zX sx so go) (zX sy so go) px py 0 i = 0 from rfl, Int.add_zero]; rfl, e, Option.bind_some]
    show dlet _ _ = _
    rw [dlet_v, show (1 : Int32) = Int32.ofInt 1 from rfl, zi_add]; rfl) (by
    show fX12_changes_l4 m 444 (Int32.ofInt ((12 : Nat) : Int)) _ = _
    unfold fX12_changes_l4
    rw [if_pos (by decide)])
  rw [show ((0 : Int32), (0 : Int32)) = (Int32.ofInt ((0 : Nat) : Int), Int32.ofInt (zAllCh N P pp (zX sx so go) (zX sy so go) px py 10 0)) from rfl, e]
  rfl
/-! changed: the class's half -/
theorem zSum_tail {f : Nat → Int} {c : Int} {n : Nat} : ∀ k : Nat, n ≤ k → (∀ i, n ≤ i → i < k → f i = c) → zSum f k = zSum f n + ((k : Int) - n) * c
  | 0, h, _ => by obtain rfl : n = 0 := by omega
                  show zSum f 0 = zSum f 0 + (((0 : Nat) : Int) - ((0 : Nat) : Int)) * c
                  simp
  | k + 1, h, q => by
    by_cases e : n = k + 1
    · subst e; rw [Int.sub_self, Int.zero_mul, Int.add_zero]
    · show zSum f k + f k = _
      rw [zSum_tail k (by omega) (fun i h1 h2 => q i h1 (by omega)), q k (by omega) (by omega)]
      have : ((k + 1 : Nat) : Int) - n = ((k : Int) - n) + 1 := by omega
      rw [this, Int.add_mul, Int.one_mul]; omega
theorem zRow_tail {N P pp : Nat} {X Y px py : Nat → Nat → Int} {i : Nat} (hN : N ≤ 10) : zRow N P pp X Y px py 10 i = zRow N P pp X Y px py N i := by
  have := zSum_tail (f := fun d => zChg N P pp X Y px py i d) (c := 0) (n := N) 10 hN (fun d h1 h2 => by
    show zChg N P pp X Y px py i d = 0
    unfold zChg
    rw [if_neg (by omega), if_neg (by omega)])
  rw [Int.mul_zero, Int.add_zero] at this
  exact this
theorem zAllCh_eq {N P pp : Nat} {X Y px py : Nat → Nat → Int} (hN : N ≤ 10) {a b : Nat} (hab : (a = P ∧ b = pp ∧ P ≤ pp) ∨ (a = pp ∧ b = P ∧ pp ≤ P)) (hb : b ≤ 12) : zAllCh N P pp X Y px py 10 12 = ((b : Int) - a) * N + zAllCh N P pp X Y px py N a := by
  have e1 : zAllCh N P pp X Y px py 10 12 = zAllCh N P pp X Y px py N 12 := zSum_congr 12 (fun i _ => zRow_tail hN)
  have e2 : zAllCh N P pp X Y px py N 12 = zAllCh N P pp X Y px py N b := by
    have := zSum_tail (f := fun i => zRow N P pp X Y px py N i) (c := 0) (n := b) 12 hb (fun i h1 h2 => by
      have : zSum (fun d => zChg N P pp X Y px py i d) N = zSum (fun _ => 0) N := zSum_congr N (fun d hd => by
        show zChg N P pp X Y px py i d = 0
        unfold zChg
        rw [if_neg (by omega), if_neg (by omega)])
      show zSum (fun d => zChg N P pp X Y px py i d) N = 0
      rw [this, zSum_0])
    rw [Int.mul_zero, Int.add_zero] at this
    exact this
  have e3 : zAllCh N P pp X Y px py N b = zAllCh N P pp X Y px py N a + ((b : Int) - a) * N := zSum_tail (f := fun i => zRow N P pp X Y px py N i) (c := (N : Int)) (n := a) b (by omega) (fun i h1 h2 => by
    have : zSum (fun d => zChg N P pp X Y px py i d) N = zSum (fun _ => 1) N := zSum_congr N (fun d hd => by
        show zChg N P pp X Y px py i d = 1
        unfold zChg
        by_cases q : i < P
        · rw [if_pos (by omega), if_neg (by omega)]
        · rw [if_neg (by omega), if_pos (by omega)])
    show zSum (fun d => zChg N P pp X Y px py i d) N = N
    rw [this]
    have := zSum_tail (f := fun _ => 1) (c := 1) (n := 0) N (by omega) (fun _ _ _ => rfl)
    rw [this]
    show (0 : Int) + ((N : Int) - ((0 : Nat) : Int)) * 1 = N
    omega)
  rw [e1, e2, e3, Int.add_comm]
theorem zSq_z {a b c d : Int} : zSq a b c d = 0 ↔ a = c ∧ b = d := by
  have sq : ∀ x : Int, 0 ≤ x * x ∧ (x * x = 0 → x = 0) := fun x => ⟨by
    rcases Int.lt_or_le x 0 with q | q
    · have := Int.mul_pos_of_neg_of_neg q q; omega
    · exact Int.mul_nonneg q q, fun h => by rcases Int.mul_eq_zero.mp h with q | q <;> exact q⟩
  unfold zSq
  have h1 := sq (a - c)
  have h2 := sq (b - d)
  constructor
  · intro h
    have := h1.2 (by omega)
    have := h2.2 (by omega)
    omega
  · rintro ⟨rfl, rfl⟩; simp
theorem kSpP {i : Nat} (h : i < 12) : zSp (396 + 3 * i) := by
  have : ∀ s : Fin 12, dkg (396 + 3 * s.val) 10 = true ∧ dL (396 + 3 * s.val + 1) = 10 ∧ dL (396 + 3 * s.val + 2) = 10 ∧ dK (396 + 3 * s.val + 1) = 20 ∧ dK (396 + 3 * s.val + 2) = 20 := by decide +kernel
  exact this ⟨i, h⟩
theorem fX3_publishedOf_ok {m : dM} {i : Nat} (h : i < 12) : fX3_publishedOf m 394 (Int32.ofInt i) = some (396 + 3 * i) := by
  unfold fX3_publishedOf
  have k := (kSpP h).1
  rw [dg_ok kPages, show fX11_isWithin m (Int32.ofInt i) 0 11 = _ from fX11_isWithin_ok m (b := 0) (c := 11) (by omega) (by omega) (by omega) (by omega) (by omega) (by omega), Option.bind_some, if_pos (show (0 : Int) ≤ i ∧ (i : Int) ≤ 11 by omega), if_neg z10, show dL 395 = 12 by decide +kernel, dg_ok (dIx_nat h (by decide)), zi_cn (by omega), show 395 + 1 + 3 * i = 396 + 3 * i by omega, dg_ok k, dg_ok (dIx_nat h (by decide)), dg_ok k]
theorem fX5_ends_ok {m : dM} {i : Nat} (h : i < 12) : fX5_ends m (49 + 8 * i) = some (49 + 8 * i + 4) := by
  unfold fX5_ends; rw [dg_ok (kPart h)]
theorem fX3_countUnlike_ok {N S P pp : Nat} {le kn : Nat → Int} {il io : Nat → Bool} {sx sy : Nat → Nat → Int} {so : Nat → Nat} {co te : Nat → Int} {lt : Nat → Bool} {go : Nat → Nat → Nat} {px py : Nat → Nat → Int} {m : dM} (hd : zDr N le kn) (hs : zSr N S sx sy) (hr : zPr N S P sx sy so co te lt go) (h : zPc N P sx sy so co te lt go m) (hg : zGr N S pp px py) (hgc : zGc N pp px py m) : fX3_countUnlike m 394 47 (Int32.ofInt N) = some (Int32.ofInt (zAllCh N P pp (zX sx so go) (zX sy so go) px py 10 12)) := by
  have hN := hd.2.1
  have hP := hr.1
  have hp := hg.1
  obtain ⟨a, b, hab, emin, emax⟩ : ∃ a b : Nat, ((a = P ∧ b = pp ∧ P ≤ pp) ∨ (a = pp ∧ b = P ∧ pp ≤ P)) ∧ (if Int32.ofInt (P : Int) < Int32.ofInt (pp : Int) then Int32.ofInt (P : Int) else Int32.ofInt (pp : Int)) = Int32.ofInt (a : Int) ∧ (if Int32.ofInt (pp : Int) < Int32.ofInt (P : Int) then Int32.ofInt (P : Int) else Int32.ofInt (pp : Int)) = Int32.ofInt (b : Int) := by
    by_cases c : P < pp
    · refine ⟨P, pp, Or.inl ⟨rfl, rfl, by omega⟩, ?_, ?_⟩
      · rw [if_pos (by rw [zi_lt (by omega) (by omega) (by omega) (by omega)]; omega)]
      · rw [if_neg (by rw [zi_lt (by omega) (by omega) (by omega) (by omega)]; omega)]
    · refine ⟨pp, P, Or.inr ⟨rfl, rfl, by omega⟩, ?_, ?_⟩
      · rw [if_neg (by rw [zi_lt (by omega) (by omega) (by omega) (by omega)]; omega)]
      · by_cases c2 : pp < P
        · rw [if_pos (by rw [zi_lt (by omega) (by omega) (by omega) (by omega)]; omega)]
        · rw [if_neg (by rw [zi_lt (by omega) (by omega) (by omega) (by omega)]; omega), show pp = P by omega]
  unfold fX3_countUnlike fX8_number
  rw [dg_ok kPages, dg_ok kShow, dg_ok kShow, h.1, hgc.1, Option.bind_some, emin, dlet_v, Option.bind_some, emax, dlet_v, zi_sub, zi_mul, zAllCh_eq hN hab (by omega)]
  generalize ((b : Int) - a) * N = B
  have e := dlp_for (f := fun q => dP2 q (fun v8 v9 => fX3_countUnlike_l32 m 394 47 (Int32.ofInt N) (Int32.ofInt (a : Int)) v8 v9)) (r := Int32.ofInt (B + zAllCh N P pp (zX sx so go) (zX sy so go) px py N a)) (fun k => (Int32.ofInt (k : Int), Int32.ofInt (B + zAllCh N P pp (zX sx so go) (zX sy so go) px py N k))) a 0 a dFl (by omega) (by show a < 100000; omega) (fun i _ hi => by
    show fX3_countUnlike_l32 m 394 47 (Int32.ofInt N) (Int32.ofInt (a : Int)) (Int32.ofInt (i : Int)) (Int32.ofInt (B + zAllCh N P pp (zX sx so go) (zX sy so go) px py N i)) = some (.inl (Int32.ofInt ((i + 1 : Nat) : Int), Int32.ofInt (B + (zAllCh N P pp (zX sx so go) (zX sy so go) px py N i + zRow N P pp (zX sx so go) (zX sy so go) px py N i))))
    unfold fX3_countUnlike_l32
    rw [if_neg (by rw [zi_le (by omega) (by omega) (by omega) (by omega)]; omega), ← Int.add_assoc]
    generalize B + zAllCh N P pp (zX sx so go) (zX sy so go) px py N i = A
    have e := dlp_for (f := fun q => dP2 q (fun v44 v45 => fX3_countUnlike_l41 m 394 47 (Int32.ofInt N) (Int32.ofInt (i : Int)) v44 v45)) (r := Int32.ofInt (A + zRow N P pp (zX sx so go) (zX sy so go) px py N i)) (fun k => (Int32.ofInt (k : Int), Int32.ofInt (A + zRow N P pp (zX sx so go) (zX sy so go) px py k i))) N 0 N dFl (by omega) (by show N < 100000; omega) (fun d _ hdN => by
      show fX3_countUnlike_l41 m 394 47 (Int32.ofInt N) (Int32.ofInt (i : Int)) (Int32.ofInt (d : Int)) (Int32.ofInt (A + zRow N P pp (zX sx so go) (zX sy so go) px py d i)) = some (.inl (Int32.ofInt ((d + 1 : Nat) : Int), Int32.ofInt (A + (zRow N P pp (zX sx so go) (zX sy so go) px py d i + zChg N P pp (zX sx so go) (zX sy so go) px py i d))))
      have i12 : i < 12 := by omega
      have c5 := (h.2 i (by omega)).2.2.2.2 d hdN
      have g5 := hgc.2 i (by omega) d hdN
      obtain ⟨b1, b2⟩ := zX_in hs hr (show i < P by omega) hdN
      obtain ⟨b3, b4, b5, b6⟩ := hg.2.2 i (by omega) d hdN
      unfold fX3_countUnlike_l41
      rw [if_neg (by rw [zi_le (by omega) (by omega) (by omega) (by omega)]; omega), fX3_publishedOf_ok i12, Option.bind_some, dg_ok (kSpP i12).1, fX8_numbered_ok i12, Option.bind_some, dg_ok (kPart i12), fX5_ends_ok i12, Option.bind_some, dg_ok (kPst i12).2.1.1, fX9_squareTo_ok (kSpP i12) (kPst i12).2.1 (by omega) (by omega), Option.bind_some, g5.1, g5.2, c5.2.1, c5.2.2.1, zi_sub, zi_sub, zi_mul, zi_mul, zi_add, show (1 : Int32) = Int32.ofInt 1 from rfl, show (0 : Int32) = Int32.ofInt 0 from rfl, zi_add, zi_add, ← Int.add_assoc]
      have bd := zSq_in (a := px i d) (b := py i d) (c := zX sx so go i d) (d := zX sy so go i d) (by omega) (by omega) (by omega) (by omega) (by omega) (by omega) (by omega) (by omega)
      have zz := zSq_z (a := px i d) (b := py i d) (c := zX sx so go i d) (d := zX sy so go i d)
      rw [show (px i d - zX sx so go i d) * (px i d - zX sx so go i d) + (py i d - zX sy so go i d) * (py i d - zX sy so go i d) = zSq (px i d) (py i d) (zX sx so go i d) (zX sy so go i d) from rfl]
      have ch : zChg N P pp (zX sx so go) (zX sy so go) px py i d = if zSq (px i d) (py i d) (zX sx so go i d) (zX sy so go i d) = 0 then 0 else 1 := by
        unfold zChg
        rw [if_pos (by omega), if_pos (by omega)]
        by_cases q : px i d = zX sx so go i d ∧ py i d = zX sy so go i d
        · rw [if_pos q, if_pos (zz.mpr q)]
        · rw [if_neg q, if_neg (fun w => q (zz.mp w))]
      rw [ch]
      by_cases q : zSq (px i d) (py i d) (zX sx so go i d) (zX sy so go i d) = 0
      · rw [if_pos (by rw [q]), if_pos q, Int.add_zero]; rfl
      · rw [if_neg (by rw [zi_eq (by omega) (by omega) (by omega) (by omega)]; exact q), if_neg q]; rfl) (by
      show fX3_countUnlike_l41 m 394 47 (Int32.ofInt N) (Int32.ofInt (i : Int)) (Int32.ofInt (N : Int)) _ = _
      unfold fX3_countUnlike_l41
      rw [if_pos (Int32.le_refl _)])
    rw [show ((0 : Int32), Int32.ofInt A) = (Int32.ofInt ((0 : Nat) : Int), Int32.ofInt (A + zRow N P pp (zX sx so go) (zX sy so go) px py 0 i)) by rw [show zRow N P pp (zX sx so go) (zX sy so go) px py 0 i = 0 from rfl, Int.add_zero]; rfl, e, Option.bind_some]
    show dlet _ _ = _
    rw [dlet_v, show (1 : Int32) = Int32.ofInt 1 from rfl, zi_add]; rfl) (by
    show fX3_countUnlike_l32 m 394 47 (Int32.ofInt N) (Int32.ofInt (a : Int)) (Int32.ofInt (a : Int)) _ = _
    unfold fX3_countUnlike_l32
    rw [if_pos (Int32.le_refl _)])
  rw [show ((0 : Int32), Int32.ofInt B) = (Int32.ofInt ((0 : Nat) : Int), Int32.ofInt (B + zAllCh N P pp (zX sx so go) (zX sy so go) px py N 0)) by rw [show zAllCh N P pp (zX sx so go) (zX sy so go) px py N 0 = 0 from rfl, Int.add_zero]; rfl, e]
  rfl
/-! publish -/
theorem fX3_keep_ok {N S P : Nat} {sx sy : Nat → Nat → Int} {so : Nat → Nat} {co te : Nat → Int} {lt : Nat → Bool} {go : Nat → Nat → Nat} {m : dM} (hr : zPr N S P sx sy so co te lt go) (h : zPc N P sx sy so co te lt go m) : ∃ m', fX3_keep m 394 47 = some m' ∧ m'.2 = m.2 ∧ (∀ a, a < 394 ∨ 432 ≤ a → m'.1 a = m.1 a) ∧ m'.1 394 2 = Int32.ofInt P ∧ ∀ i, i < P → ∀ j, j < 10 → m'.1 (396 + 3 * i + 1) j = m.1 (49 + 8 * i + 4 + 1) j ∧ m'.1 (396 + 3 * i + 2) j = m.1 (49 + 8 * i + 4 + 2) j := by
  have hP := hr.1
  unfold fX3_keep fX8_number
  rw [dg_ok kPages, dg_ok kShow, dg_ok kShow, h.1, Option.bind_some, dlet_v]
  obtain ⟨r, e, q1, q2, q3⟩ := dlp_inv (f := fun q => dP2 q (fun v5 m6 => fX3_keep_l10 394 47 v5 m6)) (Q := fun (r : dM) => r.2 = m.2 ∧ (∀ a, a < 396 ∨ 432 ≤ a → r.1 a = (d1 m 394 2 (Int32.ofInt P)).1 a) ∧ ∀ i, i < P → ∀ j, j < 10 → r.1 (396 + 3 * i + 1) j = m.1 (49 + 8 * i + 4 + 1) j ∧ r.1 (396 + 3 * i + 2) j = m.1 (49 + 8 * i + 4 + 2) j) (fun k s => s.1 = Int32.ofInt (k : Int) ∧ s.2.2 = m.2 ∧ (∀ a, a < 396 ∨ 432 ≤ a → s.2.1 a = (d1 m 394 2 (Int32.ofInt P)).1 a) ∧ ∀ i, i < k → ∀ j, j < 10 → s.2.1 (396 + 3 * i + 1) j = m.1 (49 + 8 * i + 4 + 1) j ∧ s.2.1 (396 + 3 * i + 2) j = m.1 (49 + 8 * i + 4 + 2) j) P
    (fun k s hk hs => by
      obtain ⟨v, M⟩ := s
      obtain ⟨i1, i2, i3, i4⟩ := hs
      have i1 : v = Int32.ofInt (k : Int) := i1
      have i2 : M.2 = m.2 := i2
      have i3 : ∀ a, a < 396 ∨ 432 ≤ a → M.1 a = (d1 m 394 2 (Int32.ofInt P)).1 a := i3
      have i4 : ∀ i, i < k → ∀ j, j < 10 → M.1 (396 + 3 * i + 1) j = m.1 (49 + 8 * i + 4 + 1) j ∧ M.1 (396 + 3 * i + 2) j = m.1 (49 + 8 * i + 4 + 2) j := i4
      subst i1
      have k12 : k < 12 := by omega
      refine Or.inl ⟨(Int32.ofInt ((k + 1 : Nat) : Int), zCp M (396 + 3 * k) (49 + 8 * k + 4) 10), ?_, rfl, i2, fun a ha => ?_, fun i hi j hj => ?_⟩
      · show fX3_keep_l10 394 47 (Int32.ofInt (k : Int)) M = _
        unfold fX3_keep_l10
        rw [i3 394 (by omega), zd1_at, if_neg (by rw [zi_le (by omega) (by omega) (by omega) (by omega)]; omega), fX3_publishedOf_ok k12, Option.bind_some, dg_ok (kSpP k12).1, fX8_numbered_ok k12, Option.bind_some, dg_ok (kPart k12), fX5_ends_ok k12, Option.bind_some, dg_ok (kPst k12).2.1.1, fX9_copy_ok (kSpP k12) (kPst k12).2.1, Option.bind_some, dlet_v, show (1 : Int32) = Int32.ofInt 1 from rfl, zi_add]
        rfl
      · show (zCp M (396 + 3 * k) (49 + 8 * k + 4) 10).1 a = _
        rw [zCp_ne (by omega) (by omega)]; exact i3 a ha
      · show (zCp M (396 + 3 * k) (49 + 8 * k + 4) 10).1 (396 + 3 * i + 1) j = _ ∧ (zCp M (396 + 3 * k) (49 + 8 * k + 4) 10).1 (396 + 3 * i + 2) j = _
        by_cases c : i = k
        · subst c
          rw [zCp_1 hj, zCp_2 hj, i3 _ (by omega), i3 _ (by omega), zd1_ne (by omega), zd1_ne (by omega)]
          exact ⟨rfl, rfl⟩
        · rw [zCp_ne (by omega) (by omega), zCp_ne (by omega) (by omega)]
          exact i4 i (by omega) j hj)
    (fun s hs => by
      obtain ⟨v, M⟩ := s
      obtain ⟨i1, i2, i3, i4⟩ := hs
      have i1 : v = Int32.ofInt (P : Int) := i1
      subst i1
      refine ⟨M, ?_, i2, i3, i4⟩
      show fX3_keep_l10 394 47 (Int32.ofInt (P : Int)) M = _
      have i3 : ∀ a, a < 396 ∨ 432 ≤ a → M.1 a = (d1 m 394 2 (Int32.ofInt P)).1 a := i3
      unfold fX3_keep_l10
      rw [i3 394 (by omega), zd1_at, if_pos (Int32.le_refl _)]) P 0 dFl (0, d1 m 394 2 (Int32.ofInt P)) (by omega) (by show P < 100000; omega) ⟨rfl, rfl, fun a _ => rfl, fun i hi => by omega⟩
  refine ⟨r, by rw [e]; rfl, q1, fun a ha => ?_, ?_, q3⟩
  · rw [q2 a (by omega), zd1_ne (by omega)]
  · rw [q2 394 (by omega), zd1_at]
def zPub (P N : Nat) (X Y : Nat → Nat → Int) (m0 : dM) (n : Nat) (M : dM) : Prop := M.2 = m0.2 ∧ (∀ a, a ≠ 457 → a ≠ 458 → M.1 a = m0.1 a) ∧ ∀ i d, i < 12 → d < 10 → 10 * i + d < n → M.1 458 (10 * i + d) = zB (decide (i < P ∧ d < N)) ∧ (i < P → d < N → ∀ k, k < 4 → M.1 457 (4 * (10 * i + d) + k) = Int32.ofInt (zSay (X i d) (Y i d) k))
theorem zPub_step {N S P : Nat} {le kn : Nat → Int} {il io : Nat → Bool} {sx sy : Nat → Nat → Int} {so : Nat → Nat} {co te : Nat → Int} {lt : Nat → Bool} {go : Nat → Nat → Nat} {m0 M : dM} (hd : zDr N le kn) (hdm0 : zDm N le kn il io m0) (hs : zSr N S sx sy) (hm0 : zSm N S sx sy m0) (hr : zPr N S P sx sy so co te lt go) (h0 : zPm N P so co te lt go m0) {i d : Nat} (hi : i < 12) (hd10 : d < 10) (hp : zPub P N (zX sx so go) (zX sy so go) m0 (10 * i + d) M) : ∃ M', fX12_publish_l20 444 (Int32.ofInt i) (Int32.ofInt d) M = some (.inl (Int32.ofInt ((d + 1 : Nat) : Int), M')) ∧ zPub P N (zX sx so go) (zX sy so go) m0 (10 * i + (d + 1)) M' := by
  have hN := hd.2.1
  have hP := hr.1
  obtain ⟨p1, p2, p3⟩ := hp
  have hdm : zDm N le kn il io M := hdm0.to (fun a q1 q2 => p2 a (by omega) (by omega)) (by rw [p2 444 (by decide) (by decide)])
  have hm : zSm N S sx sy M := hm0.to (fun a q1 q2 => p2 a (by omega) (by omega)) (by rw [p2 444 (by decide) (by decide)])
  have h : zPm N P so co te lt go M := h0.to (fun a q1 q2 => p2 a (by omega) (by omega)) (by rw [p2 444 (by decide) (by decide)])
  have idx : dIx (Int32.ofInt ((10 * i + d : Nat) : Int)) (dL 458) = true := by rw [kd458]; exact dIx_nat (by omega) (by decide)
  have no : ¬ (i < P ∧ d < N) → zPub P N (zX sx so go) (zX sy so go) m0 (10 * i + (d + 1)) (d1 M 458 (10 * i + d) 0) := by
    intro c
    refine ⟨p1, fun a q1 q2 => by rw [zd1_ne q2]; exact p2 a q1 q2, fun i' d' hi' hd' hq => ?_⟩
    by_cases e : 10 * i' + d' = 10 * i + d
    · obtain rfl : i' = i := by omega
      obtain rfl : d' = d := by omega
      exact ⟨by rw [zd1_at, decide_eq_false c]; rfl, fun w1 w2 => absurd ⟨w1, w2⟩ c⟩
    · rw [zd1_nk e, zd1_ne (by decide)]
      exact p3 i' d' hi' hd' (by omega)
  unfold fX12_publish_l20
  rw [if_neg (by rw [show (10 : Int32) = Int32.ofInt 10 from rfl, zi_le (by omega) (by omega) (by omega) (by omega)]; omega), zi_10, dlet_v, fX12_isPart_ok hr h (by omega) (by omega), Option.bind_some, fX12_isDot_ok hd hdm (by omega) (by omega), Option.bind_some]
  by_cases c1 : (0 : Int) ≤ i ∧ (i : Int) < P
  · rw [if_pos c1, if_neg z10]
    by_cases c2 : (0 : Int) ≤ d ∧ (d : Int) < N
    · rw [if_pos c2, if_neg z10, dg_ok idx, dlet_v, zi_cn (by omega)]
      have hM1 : ∀ a, a ≠ 457 → a ≠ 458 → (d1 M 458 (10 * i + d) 1).1 a = m0.1 a := fun a q1 q2 => by rw [zd1_ne q2]; exact p2 a q1 q2
      have hM2 : (d1 M 458 (10 * i + d) 1).1 458 (10 * i + d) = 1 := zd1_at
      obtain ⟨r, e, q1, q2, q3, q4⟩ := dlp_inv (f := fun q => dP2 q (fun v191 m192 => fX12_publish_l65_3 444 (Int32.ofInt i) (Int32.ofInt d) (Int32.ofInt ((10 * i + d : Nat) : Int)) v191 m192)) (Q := fun (r : dM) => r.2 = m0.2 ∧ (∀ a, a ≠ 457 → r.1 a = (d1 M 458 (10 * i + d) 1).1 a) ∧ (∀ j, j < 4 * (10 * i + d) → r.1 457 j = M.1 457 j) ∧ ∀ k', k' < 4 → r.1 457 (4 * (10 * i + d) + k') = Int32.ofInt (zSay (zX sx so go i d) (zX sy so go i d) k')) (fun k s => s.1 = Int32.ofInt (k : Int) ∧ s.2.2 = m0.2 ∧ (∀ a, a ≠ 457 → s.2.1 a = (d1 M 458 (10 * i + d) 1).1 a) ∧ (∀ j, j < 4 * (10 * i + d) → s.2.1 457 j = M.1 457 j) ∧ ∀ k', k' < k → s.2.1 457 (4 * (10 * i + d) + k') = Int32.ofInt (zSay (zX sx so go i d) (zX sy so go i d) k')) 4
        (fun k s hk hs' => by
          obtain ⟨v, Q⟩ := s
          obtain ⟨i1, i2, i3, i4, i5⟩ := hs'
          have i1 : v = Int32.ofInt (k : Int) := i1
          have i2 : Q.2 = m0.2 := i2
          have i3 : ∀ a, a ≠ 457 → Q.1 a = (d1 M 458 (10 * i + d) 1).1 a := i3
          have i4 : ∀ j, j < 4 * (10 * i + d) → Q.1 457 j = M.1 457 j := i4
          have i5 : ∀ k', k' < k → Q.1 457 (4 * (10 * i + d) + k') = Int32.ofInt (zSay (zX sx so go i d) (zX sy so go i d) k') := i5
          subst i1
          have hmQ : zSm N S sx sy Q := hm0.to (fun a q1 q2 => by rw [i3 a (by omega), hM1 a (by omega) (by omega)]) (by rw [i3 444 (by decide), hM1 444 (by decide) (by decide)])
          have hQ : zPm N P so co te lt go Q := h0.to (fun a q1 q2 => by rw [i3 a (by omega), hM1 a (by omega) (by omega)]) (by rw [i3 444 (by decide), hM1 444 (by decide) (by decide)])
          refine Or.inl ⟨(Int32.ofInt ((k + 1 : Nat) : Int), d1 Q 457 (4 * (10 * i + d) + k) (Int32.ofInt (zSay (zX sx so go i d) (zX sy so go i d) k))), ?_, rfl, i2, fun a q1 => ?_, fun j hj => ?_, fun k' hk' => ?_⟩
          · show fX12_publish_l65_3 444 (Int32.ofInt i) (Int32.ofInt d) (Int32.ofInt ((10 * i + d : Nat) : Int)) (Int32.ofInt (k : Int)) Q = _
            unfold fX12_publish_l65_3
            rw [if_neg (by rw [show (4 : Int32) = Int32.ofInt 4 from rfl, zi_le (by omega) (by omega) (by omega) (by omega)]; omega), dg_ok idx, zi_cn (by omega), i3 458 (by decide), hM2, if_neg z10, fX12_says_ok hN hs hmQ hr hQ (by omega) (by omega) hk, Option.bind_some, zi_4, kd457, dg_ok (dIx_nat (by omega) (by decide)), zi_cn (by omega), dlet_v, dlet_v, show (1 : Int32) = Int32.ofInt 1 from rfl, zi_add]
            rfl
          · show (d1 Q 457 _ _).1 a = _
            rw [zd1_ne q1]; exact i3 a q1
          · show (d1 Q 457 _ _).1 457 j = _
            rw [zd1_nk (by omega)]; exact i4 j hj
          · show (d1 Q 457 _ _).1 457 _ = _
            by_cases e : k' = k
            · subst e; exact zd1_at
            · rw [zd1_nk (by omega)]; exact i5 k' (by omega))
        (fun s hs' => by
          obtain ⟨v, Q⟩ := s
          obtain ⟨i1, i2⟩ := hs'
          have i1 : v = Int32.ofInt ((4 : Nat) : Int) := i1
          subst i1
          refine ⟨Q, ?_, i2⟩
          show fX12_publish_l65_3 444 (Int32.ofInt i) (Int32.ofInt d) (Int32.ofInt ((10 * i + d : Nat) : Int)) (Int32.ofInt ((4 : Nat) : Int)) Q = _
          unfold fX12_publish_l65_3
          rw [if_pos (by decide)]) 4 0 dFl (0, d1 M 458 (10 * i + d) 1) (by omega) (by decide) ⟨rfl, p1, fun a _ => rfl, fun j _ => congrFun (zd1_ne (by decide)) j, fun k' hk' => by omega⟩
      refine ⟨r, by rw [e, Option.bind_some]; show dlet _ _ = _; rw [dlet_v, show (1 : Int32) = Int32.ofInt 1 from rfl, zi_add]; rfl, q1, fun a w1 w2 => by rw [q2 a w1]; exact hM1 a w1 w2, fun i' d' hi' hd' hq => ?_⟩
      rw [q2 458 (by decide)]
      by_cases e : 10 * i' + d' = 10 * i + d
      · obtain rfl : i' = i := by omega
        obtain rfl : d' = d := by omega
        exact ⟨by rw [zd1_at, decide_eq_true (show i' < P ∧ d' < N by omega)]; rfl, fun w1 w2 k hk => q4 k hk⟩
      · rw [zd1_nk e]
        obtain ⟨y1, y2⟩ := p3 i' d' hi' hd' (by omega)
        exact ⟨y1, fun w1 w2 k hk => by rw [q3 _ (by omega)]; exact y2 w1 w2 k hk⟩
    · refine ⟨d1 M 458 (10 * i + d) 0, ?_, no (by omega)⟩
      rw [if_neg c2, if_pos rfl, dg_ok idx, dlet_v, zi_cn (by omega), show dFl = 99999 + 1 from rfl, dlp2 (r := d1 M 458 (10 * i + d) 0)]
      · show dlet _ _ = _
        rw [dlet_v, show (1 : Int32) = Int32.ofInt 1 from rfl, zi_add]; rfl
      · show fX12_publish_l65_2 444 (Int32.ofInt i) (Int32.ofInt d) (Int32.ofInt ((10 * i + d : Nat) : Int)) 0 (d1 M 458 (10 * i + d) 0) = _
        unfold fX12_publish_l65_2
        rw [if_neg (by decide), dg_ok idx, zi_cn (by omega), zd1_at, if_pos rfl]
  · refine ⟨d1 M 458 (10 * i + d) 0, ?_, no (by omega)⟩
    rw [if_neg c1, if_pos rfl, dg_ok idx, dlet_v, zi_cn (by omega), show dFl = 99999 + 1 from rfl, dlp2 (r := d1 M 458 (10 * i + d) 0)]
    · show dlet _ _ = _
      rw [dlet_v, show (1 : Int32) = Int32.ofInt 1 from rfl, zi_add]; rfl
    · show fX12_publish_l65 444 (Int32.ofInt i) (Int32.ofInt d) (Int32.ofInt ((10 * i + d : Nat) : Int)) 0 (d1 M 458 (10 * i + d) 0) = _
      unfold fX12_publish_l65
      rw [if_neg (by decide), dg_ok idx, zi_cn (by omega), zd1_at, if_pos rfl]
theorem fX12_publish_ok {N S P pp : Nat} {le kn : Nat → Int} {il io : Nat → Bool} {sx sy : Nat → Nat → Int} {so : Nat → Nat} {co te : Nat → Int} {lt : Nat → Bool} {go : Nat → Nat → Nat} {px py : Nat → Nat → Int} {m : dM} (hd : zDr N le kn) (hdm0 : zDm N le kn il io m) (hs : zSr N S sx sy) (hm0 : zSm N S sx sy m) (hr : zPr N S P sx sy so co te lt go) (h0 : zPm N P so co te lt go m) (hg : zGr N S pp px py) (hgm0 : zGm N pp px py m) : ∃ m', fX12_publish m 444 = some (Int32.ofInt (zAllCh N P pp (zX sx so go) (zX sy so go) px py 10 12), m') ∧ zPub P N (zX sx so go) (zX sy so go) (d1 m 444 25 0) 120 m' := by
  unfold fX12_publish
  rw [dg_ok kM, dlet_v]
  have hdm : zDm N le kn il io (d1 m 444 25 0) := hdm0.to (fun a q1 q2 => by simp (disch := omega) only [zd1_ne, zd1_nk, zd2_1]) (by simp (disch := omega) only [zd1_ne, zd1_nk, zd2_1])
  have hm : zSm N S sx sy (d1 m 444 25 0) := hm0.to (fun a q1 q2 => by simp (disch := omega) only [zd1_ne, zd1_nk, zd2_1]) (by simp (disch := omega) only [zd1_ne, zd1_nk, zd2_1])
  have h : zPm N P so co te lt go (d1 m 444 25 0) := h0.to (fun a q1 q2 => by simp (disch := omega) only [zd1_ne, zd1_nk, zd2_1]) (by simp (disch := omega) only [zd1_ne, zd1_nk, zd2_1])
  have hgm : zGm N pp px py (d1 m 444 25 0) := hgm0.to (fun a q1 q2 => by simp (disch := omega) only [zd1_ne, zd1_nk, zd2_1])
  generalize d1 m 444 25 0 = M at *
  rw [fX12_changes_ok hd hdm hs hm hr h hg hgm, Option.bind_some]
  obtain ⟨r, e, q⟩ := dlp_inv (f := fun q => dP2 q (fun v5 m6 => fX12_publish_l12 444 v5 m6)) (Q := fun r => zPub P N (zX sx so go) (zX sy so go) M 120 r) (fun k s => s.1 = Int32.ofInt (k : Int) ∧ zPub P N (zX sx so go) (zX sy so go) M (10 * k) s.2) 12
    (fun k s hk hs' => by
      obtain ⟨v, Q⟩ := s
      obtain ⟨i1, i2⟩ := hs'
      have i1 : v = Int32.ofInt (k : Int) := i1
      have i2 : zPub P N (zX sx so go) (zX sy so go) M (10 * k) Q := i2
      subst i1
      obtain ⟨r, e, q⟩ := dlp_inv (f := fun q => dP2 q (fun v107 m108 => fX12_publish_l20 444 (Int32.ofInt (k : Int)) v107 m108)) (Q := fun r => zPub P N (zX sx so go) (zX sy so go) M (10 * (k + 1)) r) (fun d s => s.1 = Int32.ofInt (d : Int) ∧ zPub P N (zX sx so go) (zX sy so go) M (10 * k + d) s.2) 10
        (fun d s hd' hs' => by
          obtain ⟨v, Q⟩ := s
          obtain ⟨i1, i2⟩ := hs'
          have i1 : v = Int32.ofInt (d : Int) := i1
          subst i1
          obtain ⟨M', w1, w2⟩ := zPub_step hd hdm hs hm hr h hk hd' i2
          exact Or.inl ⟨_, w1, rfl, w2⟩)
        (fun s hs' => by
          obtain ⟨v, Q⟩ := s
          obtain ⟨i1, i2⟩ := hs'
          have i1 : v = Int32.ofInt ((10 : Nat) : Int) := i1
          subst i1
          refine ⟨Q, ?_, i2⟩
          show fX12_publish_l20 444 (Int32.ofInt (k : Int)) (Int32.ofInt ((10 : Nat) : Int)) Q = _
          unfold fX12_publish_l20
          rw [if_pos (by decide)]) 10 0 dFl (0, Q) (by omega) (by decide) ⟨rfl, i2⟩
      refine Or.inl ⟨(Int32.ofInt ((k + 1 : Nat) : Int), r), ?_, rfl, q⟩
      show fX12_publish_l12 444 (Int32.ofInt (k : Int)) Q = _
      unfold fX12_publish_l12
      rw [if_neg (by rw [show (12 : Int32) = Int32.ofInt 12 from rfl, zi_le (by omega) (by omega) (by omega) (by omega)]; omega), e, Option.bind_some]
      show dlet _ _ = _
      rw [dlet_v, show (1 : Int32) = Int32.ofInt 1 from rfl, zi_add]; rfl)
    (fun s hs' => by
      obtain ⟨v, Q⟩ := s
      obtain ⟨i1, i2⟩ := hs'
      have i1 : v = Int32.ofInt ((12 : Nat) : Int) := i1
      subst i1
      refine ⟨Q, ?_, i2⟩
      show fX12_publish_l12 444 (Int32.ofInt ((12 : Nat) : Int)) Q = _
      unfold fX12_publish_l12
      rw [if_pos (by decide)]) 12 0 dFl (0, M) (by omega) (by decide) ⟨rfl, rfl, fun a _ _ => rfl, fun i d _ _ hq => by omega⟩
  exact ⟨r, by rw [e]; rfl, q⟩
theorem fLaw_18_ok {xs : Nat → Int32} {nL : Nat} {i : Int32} {m : dM} (hI : zI m) : ∃ m', fLaw_18 xs nL i m = some m' ∧ zI m' := by
  obtain ⟨N, S, P, pp, le, kn, il, io, sx, sy, so, co, te, lt, go, px, py, lo, hi, cap, pen, h0, h1, h1m, h2, h3, h4, h5, h6, h7, h8, h9, h10, h11, h12, h13⟩ := hI
  obtain ⟨M, k1, k2, k3, k4, k5⟩ := fX3_keep_ok h5 h6
  have X : fX11_publish m 0 = some (Int32.ofInt (zAllCh N P pp (zX sx so go) (zX sy so go) px py 10 12), M) := by
    unfold fX11_publish fX1_number
    rw [dg_ok kF, dg_ok kDots, h1.1, Option.bind_some, fX3_countUnlike_ok (il := il) (io := io) h0 h2 h5 h6 h8 h9, Option.bind_some, k1, Option.bind_some]
  obtain ⟨M', Y, p1, p2, p3⟩ := fX12_publish_ok (m := M) h0 (h1m.to (fun a q1 q2 => k3 a (by omega)) (by rw [k3 444 (by omega)])) h2 (h4.to (fun a q1 q2 => k3 a (by omega)) (by rw [k3 444 (by omega)])) h5 (h7.to (fun a q1 q2 => k3 a (by omega)) (by rw [k3 444 (by omega)])) h8 (h10.to (fun a q1 q2 => k3 a (by omega)))
  have hP := h5.1
  have hN := h0.2.1
  have fr : ∀ a, a < 394 ∨ 432 ≤ a → a ≠ 444 → a ≠ 457 → a ≠ 458 → M'.1 a = m.1 a := fun a q1 q2 q3 q4 => by rw [p2 a q3 q4, zd1_ne q2, k3 a q1]
  have f4 : ∀ k, k ≠ 25 → M'.1 444 k = m.1 444 k := fun k q => by rw [p2 444 (by decide) (by decide), zd1_nk q, k3 444 (by omega)]
  have fg : ∀ a, 394 ≤ a → a < 432 → M'.1 a = M.1 a := fun a q1 q2 => by rw [p2 a (by omega) (by omega), zd1_ne (by omega)]
  refine ⟨M', ?_, N, S, P, P, le, kn, il, io, sx, sy, so, co, te, lt, go, zX sx so go, zX sy so go, lo, hi, cap, pen, h0, h1.to (fun a q1 q2 => fr a (by omega) (by omega) (by omega) (by omega)), h1m.to (fun a q1 q2 => fr a (by omega) (by omega) (by omega) (by omega)) (f4 0 (by decide)), h2, h3.to h2.1 (fun a q1 q2 => fr a (by omega) (by omega) (by omega) (by omega)), h4.to (fun a q1 q2 => fr a (by omega) (by omega) (by omega) (by omega)) (f4 5 (by decide)), h5, h6.to h5.1 (fun a q1 q2 => fr a (by omega) (by omega) (by omega) (by omega)), h7.to (fun a q1 q2 => fr a (by omega) (by omega) (by omega) (by omega)) (f4 8 (by decide)), ⟨hP, fun q => by have := (h5.2 0 q).1; omega, fun i hi d hd => ?_⟩, ⟨by rw [fg 394 (by omega) (by omega)]; exact k4, fun i hi d hd => ?_⟩, ⟨fun i hi d hd => (p3 i d hi hd (by omega)).1, fun i hi d hd k hk => (p3 i d (by omega) (by omega) (by omega)).2 hi hd k hk⟩, h11, h12.to (fun a q1 q2 => fr a (by omega) (by omega) (by omega) (by omega)), h13.to (fun a q1 q2 => fr a (by omega) (by omega) (by omega) (by omega)) (f4 17 (by decide)) (f4 18 (by decide))⟩
  · unfold fLaw_18
    rw [X, Option.bind_some]
    show (fX12_publish M 444).bind _ = _
    rw [Y, Option.bind_some]
    show (if _ = _ then _ else _) = _
    rw [if_pos rfl]
  · obtain ⟨b1, b2⟩ := zX_in h2 h5 hi hd
    exact ⟨b1.1, b1.2, b2.1, b2.2⟩
  · rw [fg _ (by omega) (by omega), fg _ (by omega) (by omega)]
    obtain ⟨y1, y2⟩ := k5 i hi d (by omega)
    rw [y1, y2]
    have c5 := (h6.2 i hi).2.2.2.2 d hd
    exact ⟨c5.2.1, c5.2.2.1⟩
theorem fLaw_19_ok {xs : Nat → Int32} {nL : Nat} {i : Int32} {m : dM} (hI : zI m) : ∃ m', fLaw_19 xs nL i m = some m' ∧ zI m' := by
  have hI0 := hI
  obtain ⟨N, S, P, pp, le, kn, il, io, sx, sy, so, co, te, lt, go, px, py, lo, hi, cap, pen, h0, h1, h1m, h2, h3, h4, h5, h6, h7, h8, h9, h10, h11, h12, h13⟩ := hI0
  have X : fX11_changed m 0 = some (Int32.ofInt (zAllCh N P pp (zX sx so go) (zX sy so go) px py 10 12)) := by
    unfold fX11_changed fX1_number
    rw [dg_ok kF, dg_ok kDots, h1.1, Option.bind_some, fX3_countUnlike_ok (il := il) (io := io) h0 h2 h5 h6 h8 h9, Option.bind_some]
  have Y : fX12_changed m 444 = some (Int32.ofInt (zAllCh N P pp (zX sx so go) (zX sy so go) px py 10 12), d1 m 444 25 0) := by
    unfold fX12_changed
    rw [dg_ok kM, dlet_v, fX12_changes_ok (m := d1 m 444 25 0) h0 (h1m.to (fun a q1 q2 => by simp (disch := omega) only [zd1_ne, zd1_nk, zd2_1]) (by simp (disch := omega) only [zd1_ne, zd1_nk, zd2_1])) h2 (h4.to (fun a q1 q2 => by simp (disch := omega) only [zd1_ne, zd1_nk, zd2_1]) (by simp (disch := omega) only [zd1_ne, zd1_nk, zd2_1])) h5 (h7.to (fun a q1 q2 => by simp (disch := omega) only [zd1_ne, zd1_nk, zd2_1]) (by simp (disch := omega) only [zd1_ne, zd1_nk, zd2_1])) h8 (h10.to (fun a q1 q2 => by simp (disch := omega) only [zd1_ne, zd1_nk, zd2_1])), Option.bind_some]
  refine ⟨d1 m 444 25 0, ?_, hI.to (fun a h => by simp (disch := omega) only [zd1_ne, zd1_nk, zd2_1]) (fun k h => by simp (disch := omega) only [zd1_ne, zd1_nk, zd2_1])⟩
  unfold fLaw_19
  rw [X, Option.bind_some, Y, Option.bind_some]
  show (if _ = _ then _ else _) = _
  rw [if_pos rfl]
