def zRtN (z : Int) : Nat → Int | 0 => 0 | n + 1 => if ((n + 1 : Nat) : Int) * ((n + 1 : Nat) : Int) ≤ z then ((n + 1 : Nat) : Int) else zRtN z n
def zRt (z : Int) : Int := zRtN z 4095
theorem zRtN_ok {z : Int} (hz : 0 ≤ z) : ∀ n : Nat, 0 ≤ zRtN z n ∧ zRtN z n ≤ n ∧ zRtN z n * zRtN z n ≤ z ∧ (z < ((n : Int) + 1) * ((n : Int) + 1) → z < (zRtN z n + 1) * (zRtN z n + 1))
  | 0 => ⟨by show (0 : Int) ≤ 0; omega, by show (0 : Int) ≤ 0; omega, by show (0 : Int) * 0 ≤ z; omega, fun h => h⟩
  | n + 1 => by
    have ih := zRtN_ok hz n
    have e : zRtN z (n + 1) = if ((n + 1 : Nat) : Int) * ((n + 1 : Nat) : Int) ≤ z then ((n + 1 : Nat) : Int) else zRtN z n := rfl
    rw [e]
    by_cases c : ((n + 1 : Nat) : Int) * ((n + 1 : Nat) : Int) ≤ z
    · rw [if_pos c]
      exact ⟨by omega, by omega, c, fun h => h⟩
    · rw [if_neg c]
      refine ⟨ih.1, by omega, ih.2.2.1, fun _ => ih.2.2.2 ?_⟩
      have : ((n + 1 : Nat) : Int) = (n : Int) + 1 := by omega
      rw [this] at c
      omega
theorem zRt_ok {z : Int} (hz : 0 ≤ z) (hz' : z < 16777216) : 0 ≤ zRt z ∧ zRt z ≤ 4095 ∧ zRt z * zRt z ≤ z ∧ z < (zRt z + 1) * (zRt z + 1) := by
  obtain ⟨a, b, c, d⟩ := zRtN_ok hz 4095
  exact ⟨a, b, c, d (by omega)⟩
theorem zRt_u {z r : Int} (hz : 0 ≤ z) (hz' : z < 16777216) (h0 : 0 ≤ r) (h1 : r * r ≤ z) (h2 : z < (r + 1) * (r + 1)) : r = zRt z := by
  obtain ⟨a, b, c, d⟩ := zRt_ok hz hz'
  rcases (show r < zRt z ∨ r = zRt z ∨ zRt z < r by omega) with q | q | q
  · have := Int.mul_self_le_mul_self (a := r + 1) (b := zRt z) (by omega) (by omega); omega
  · exact q
  · have := Int.mul_self_le_mul_self (a := zRt z + 1) (b := r) (by omega) (by omega); omega
theorem zShr {k : Nat} (h : k < 11) : Int32.ofInt ((2 : Int) ^ (k + 1)) >>> (1 &&& 31) = Int32.ofInt ((2 : Int) ^ k) := by
  have : ∀ k : Fin 11, Int32.ofInt ((2 : Int) ^ (k.val + 1)) >>> (1 &&& 31) = Int32.ofInt ((2 : Int) ^ k.val) := by decide +kernel
  exact this ⟨k, h⟩
theorem fX11_rootDown_go {z : Int} (hz : 0 ≤ z) (hz' : z < 16777216) : ∀ (k : Nat) (n : Nat) (r : Int), k < 12 → k + 2 ≤ n → 0 ≤ r → r + 2 ^ (k + 1) ≤ 4096 → r * r ≤ z → z < (r + 2 ^ (k + 1)) * (r + 2 ^ (k + 1)) → dlp (fun q => dP2 q (fun v2 v3 => fX11_rootDown_l6 (Int32.ofInt z) v2 v3)) n (Int32.ofInt (2 ^ k), Int32.ofInt r) = some (Int32.ofInt (zRt z))
  | 0, 0, r, _, h, _, _, _, _ => by omega
  | 0, 1, r, _, h, _, _, _, _ => by omega
  | 0, n + 2, r, _, _, h0, h1, h2, h3 => by
    have h1 : r + 2 ≤ 4096 := h1
    have h3 : z < (r + 2) * (r + 2) := h3
    have fin : ∀ s : Int, 0 ≤ s → s * s ≤ z → z < (s + 1) * (s + 1) → dlp (fun q => dP2 q (fun v2 v3 => fX11_rootDown_l6 (Int32.ofInt z) v2 v3)) (n + 1) (0, Int32.ofInt s) = some (Int32.ofInt (zRt z)) := by
      intro s s0 s1 s2
      rw [← zRt_u hz hz' s0 s1 s2]
      refine dlp2 ?_
      show fX11_rootDown_l6 (Int32.ofInt z) 0 (Int32.ofInt s) = _
      unfold fX11_rootDown_l6
      rw [if_pos (by decide)]
    have bd := Int.mul_self_le_mul_self (a := r + 1) (b := 4095) (by omega) (by omega)
    have e : (r + 1) + 1 = r + 2 := by omega
    have nn := Int.mul_nonneg (show 0 ≤ r + 1 by omega) (show 0 ≤ r + 1 by omega)
    by_cases c : z < (r + 1) * (r + 1)
    · rw [dlp1 (s' := (0, Int32.ofInt r))]
      · exact fin r h0 h2 c
      · show fX11_rootDown_l6 (Int32.ofInt z) (Int32.ofInt 1) (Int32.ofInt r) = _
        unfold fX11_rootDown_l6
        rw [if_neg (by decide), dlet_v, zi_add, zi_mul, if_pos (by rw [zi_lt (by omega) (by omega) (by omega) (by omega)]; exact c), dlet_v]; rfl
    · rw [dlp1 (s' := (0, Int32.ofInt (r + 1)))]
      · exact fin (r + 1) (by omega) (by omega) (by rw [e]; exact h3)
      · show fX11_rootDown_l6 (Int32.ofInt z) (Int32.ofInt 1) (Int32.ofInt r) = _
        unfold fX11_rootDown_l6
        rw [if_neg (by decide), dlet_v, zi_add, zi_mul, if_neg (by rw [zi_lt (by omega) (by omega) (by omega) (by omega)]; exact c), dlet_v]; rfl
  | k + 1, 0, r, _, h, _, _, _, _ => by omega
  | k + 1, n + 1, r, hk, hn, h0, h1, h2, h3 => by
    have p : (2 : Int) ^ (k + 1 + 1) = 2 ^ (k + 1) + 2 ^ (k + 1) := by rw [Int.pow_succ (n := k + 1)]; omega
    have p0 : 1 ≤ (2 : Int) ^ (k + 1) := by have := Int.pow_pos (n := 2) (m := k + 1) (by decide); omega
    have p1 : (2 : Int) ^ (k + 1) ≤ 4096 := by omega
    rw [p] at h1 h3
    have bd := Int.mul_self_le_mul_self (a := r + 2 ^ (k + 1)) (b := 4095) (by omega) (by omega)
    have pos : ¬ (Int32.ofInt ((2 : Int) ^ (k + 1)) ≤ 0) := by rw [show (0 : Int32) = Int32.ofInt 0 from rfl, zi_le (by omega) (by omega) (by omega) (by omega)]; omega
    have nn := Int.mul_nonneg (show 0 ≤ r + 2 ^ (k + 1) by omega) (show 0 ≤ r + 2 ^ (k + 1) by omega)
    by_cases c : z < (r + 2 ^ (k + 1)) * (r + 2 ^ (k + 1))
    · rw [dlp1 (s' := (Int32.ofInt (2 ^ k), Int32.ofInt r))]
      · exact fX11_rootDown_go hz hz' k n r (by omega) (by omega) h0 (by omega) h2 c
      · show fX11_rootDown_l6 (Int32.ofInt z) (Int32.ofInt (2 ^ (k + 1))) (Int32.ofInt r) = _
        unfold fX11_rootDown_l6
        rw [if_neg pos, dlet_v, zi_add, zi_mul, if_pos (by rw [zi_lt (by omega) (by omega) (by omega) (by omega)]; exact c), dlet_v, zShr (by omega)]
    · rw [dlp1 (s' := (Int32.ofInt (2 ^ k), Int32.ofInt (r + 2 ^ (k + 1))))]
      · exact fX11_rootDown_go hz hz' k n (r + 2 ^ (k + 1)) (by omega) (by omega) (by omega) (by omega) (by omega) (by rw [Int.add_assoc]; exact h3)
      · show fX11_rootDown_l6 (Int32.ofInt z) (Int32.ofInt (2 ^ (k + 1))) (Int32.ofInt r) = _
        unfold fX11_rootDown_l6
        rw [if_neg pos, dlet_v, zi_add, zi_mul, if_neg (by rw [zi_lt (by omega) (by omega) (by omega) (by omega)]; exact c), dlet_v, zShr (by omega)]
theorem fX11_rootDown_ok (m : dM) {z : Int} (hz : 0 ≤ z) (hz' : z < 16777216) : fX11_rootDown m (Int32.ofInt z) = some (Int32.ofInt (zRt z)) := by
  unfold fX11_rootDown
  rw [show ((2048 : Int32), (0 : Int32)) = (Int32.ofInt (2 ^ 11), Int32.ofInt 0) from rfl, fX11_rootDown_go hz hz' 11 dFl 0 (by omega) (by decide) (by omega) (by decide) (by omega) (by rw [show ((0 : Int) + 2 ^ (11 + 1)) * (0 + 2 ^ (11 + 1)) = 16777216 from by decide]; exact hz')]
  rfl
theorem zcmp_lt {a b : Int} (h1 : -9223372036854775808 ≤ a) (h2 : a < 9223372036854775808) (h3 : -9223372036854775808 ≤ b) (h4 : b < 9223372036854775808) : (0 < lg_cmp (Int64.ofInt a) (Int64.ofInt b)) = (b < a) := by
  unfold lg_cmp
  show (0 < if Int64.ofInt b < Int64.ofInt a then (1 : Int32) else if Int64.ofInt a = Int64.ofInt b then 0 else -1) = _
  simp only [zj_lt h3 h4 h1 h2, zj_eq h1 h2 h3 h4]
  by_cases c : b < a
  · rw [if_pos c]; simp [c]
  · rw [if_neg c]
    by_cases d : a = b
    · rw [if_pos d]; simp [c]
    · rw [if_neg d]; simp [c]
def zSt (X : Nat → Nat → Int) (co : Nat → Int) (i : Nat) (c : Int) : Nat → Int := fun d => zOn (X (i - 1) d) (X i d) c (co i)
theorem fX5_stand_ok {N S P : Nat} {sx sy : Nat → Nat → Int} {so : Nat → Nat} {co te : Nat → Int} {lt : Nat → Bool} {go : Nat → Nat → Nat} {m : dM} (hN : N ≤ 10) (hs : zSr N S sx sy) (hr : zPr N S P sx sy so co te lt go) (h : zPc N P sx sy so co te lt go m) {i q : Nat} (hi : i < P) (hq : zSp q) (hq' : 145 ≤ q) {c : Int} (hc : 0 ≤ c) (hc' : c ≤ co i) : fX5_stand m (49 + 8 * i) (Int32.ofInt c) q (Int32.ofInt N) = some (zW2 m (q + 1) (q + 2) 0 (zSt (zX sx so go) co i c) (zSt (zX sy so go) co i c) N) := by
  have hP := hr.1
  unfold fX5_stand
  rw [dg_ok (kPart (by omega)), dg_ok hq.1]
  have e := dlp_for (f := fun w => dP2 w (fun v2 m3 => fX5_stand_l3 (49 + 8 * i) (Int32.ofInt c) q (Int32.ofInt N) v2 m3)) (r := zW2 m (q + 1) (q + 2) 0 (zSt (zX sx so go) co i c) (zSt (zX sy so go) co i c) N) (fun k => (Int32.ofInt (k : Int), zW2 m (q + 1) (q + 2) 0 (zSt (zX sx so go) co i c) (zSt (zX sy so go) co i c) k)) N 0 N dFl (by omega) (by show N < 100000; omega) (fun k _ hk => by
    show fX5_stand_l3 (49 + 8 * i) (Int32.ofInt c) q (Int32.ofInt N) (Int32.ofInt (k : Int)) (zW2 m (q + 1) (q + 2) 0 (zSt (zX sx so go) co i c) (zSt (zX sy so go) co i c) k) = some (.inl (Int32.ofInt ((k + 1 : Nat) : Int), zW2 m (q + 1) (q + 2) 0 (zSt (zX sx so go) co i c) (zSt (zX sy so go) co i c) (k + 1)))
    have h' : zPc N P sx sy so co te lt go (zW2 m (q + 1) (q + 2) 0 (zSt (zX sx so go) co i c) (zSt (zX sy so go) co i c) k) := h.to hP (fun a q1 q2 => zW2_ne (by omega) (by omega))
    unfold fX5_stand_l3
    rw [if_neg (by rw [zi_le (by omega) (by omega) (by omega) (by omega)]; omega), fX5_xOf_ok hN hs hr h' hi hk hc hc', Option.bind_some, fX5_yOf_ok hN hs hr h' hi hk hc hc', Option.bind_some, fX9_put_ok hq (by omega), Option.bind_some, dlet_v, show (1 : Int32) = Int32.ofInt 1 from rfl, zi_add, ← zW2_s (by omega), Nat.zero_add]
    rfl) (by
    show fX5_stand_l3 (49 + 8 * i) (Int32.ofInt c) q (Int32.ofInt N) (Int32.ofInt (N : Int)) _ = _
    unfold fX5_stand_l3
    rw [if_pos (Int32.le_refl _)])
  rw [show ((0 : Int32), m) = (Int32.ofInt ((0 : Nat) : Int), zW2 m (q + 1) (q + 2) 0 (zSt (zX sx so go) co i c) (zSt (zX sy so go) co i c) 0) by rw [zW2_0]; rfl, e]
  rfl
def zPh (mar : Nat → Bool) (T : Nat → Int) : Nat → Int × Int | 0 => (-1, -1) | d + 1 => if mar d = true then (if (zPh mar T d).1 < T d then T d else (zPh mar T d).1, if (zPh mar T d).2 = -1 then T d else if T d < (zPh mar T d).2 then T d else (zPh mar T d).2) else zPh mar T d
theorem zPh_in {mar : Nat → Bool} {T : Nat → Int} : ∀ {n : Nat}, (∀ d, d < n → 0 ≤ T d ∧ T d ≤ 1000) → (-1 ≤ (zPh mar T n).1 ∧ (zPh mar T n).1 ≤ 1000) ∧ -1 ≤ (zPh mar T n).2 ∧ (zPh mar T n).2 ≤ 1000
  | 0, _ => ⟨⟨by show (-1 : Int) ≤ -1; omega, by show (-1 : Int) ≤ 1000; omega⟩, by show (-1 : Int) ≤ -1; omega, by show (-1 : Int) ≤ 1000; omega⟩
  | n + 1, h => by
    have ih := zPh_in (mar := mar) (n := n) (fun d hd => h d (by omega))
    have b := h n (by omega)
    show (-1 ≤ (if mar n = true then _ else _ : Int × Int).1 ∧ (if mar n = true then _ else _ : Int × Int).1 ≤ 1000) ∧ -1 ≤ (if mar n = true then _ else _ : Int × Int).2 ∧ (if mar n = true then _ else _ : Int × Int).2 ≤ 1000
    by_cases c : mar n = true
    · rw [if_pos c]
      refine ⟨?_, ?_⟩
      · show -1 ≤ (if _ then _ else _ : Int) ∧ (if _ then _ else _ : Int) ≤ 1000
        split <;> omega
      · show -1 ≤ (if _ then _ else _ : Int) ∧ (if _ then _ else _ : Int) ≤ 1000
        split
        · omega
        · split <;> omega
    · rw [if_neg c]; exact ih
theorem zDist {x y a b : Int} (x1 : 0 ≤ x) (x2 : x ≤ 1600) (y1 : 0 ≤ y) (y2 : y ≤ 840) (a1 : 0 ≤ a) (a2 : a ≤ 1600) (b1 : -1000 ≤ b) (b2 : b ≤ -1) : (0 ≤ zSq x y a b ∧ zSq x y a b < 16000000) ∧ 0 ≤ zRt (zSq x y a b) / 6 ∧ zRt (zSq x y a b) / 6 ≤ 1000 := by
  have sq : ∀ (z M : Int), -M ≤ z → z ≤ M → 0 ≤ z * z ∧ z * z ≤ M * M := fun z M h1 h2 => by
    rcases Int.lt_or_le z 0 with q | q
    · have := Int.mul_pos_of_neg_of_neg q q
      have e := Int.mul_self_le_mul_self (a := -z) (b := M) (by omega) (by omega)
      rw [Int.neg_mul_neg] at e
      omega
    · exact ⟨Int.mul_nonneg q q, Int.mul_self_le_mul_self q h2⟩
  have h1 := sq (x - a) 1600 (by omega) (by omega)
  have h2 := sq (y - b) 2000 (by omega) (by omega)
  unfold zSq
  have := zRt_ok (z := (x - a) * (x - a) + (y - b) * (y - b)) (by omega) (by omega)
  omega
def zTs (X Y : Nat → Int) (a b : Int) : Nat → Int := fun d => zRt (zSq (X d) (Y d) a b) / 6
theorem kSp391 : zSp 391 := by unfold zSp; decide +kernel
theorem fX11_soundApart_ok {N : Nat} {le kn : Nat → Int} {il io : Nat → Bool} {m : dM} (hd : zDr N le kn) (hdc : zDc N le kn il io m) {X Y : Nat → Int} (hX : ∀ d, d < N → (0 ≤ X d ∧ X d ≤ 1600) ∧ 0 ≤ Y d ∧ Y d ≤ 840) (hm : ∀ d, d < N → m.1 392 d = Int32.ofInt (X d) ∧ m.1 393 d = Int32.ofInt (Y d)) {a b : Int} (a1 : 0 ≤ a) (a2 : a ≤ 1600) (b1 : -1000 ≤ b) (b2 : b ≤ -1) : fX11_soundApart m 0 (Int32.ofInt a) (Int32.ofInt b) = some (Int32.ofInt ((zPh (zMar kn il io) (zTs X Y a b) N).1 - (zPh (zMar kn il io) (zTs X Y a b) N).2)) := by
  have hN := hd.2.1
  have bT : ∀ d, d < N → 0 ≤ zTs X Y a b d ∧ zTs X Y a b d ≤ 1000 := fun d hdN => by
    obtain ⟨w1, w2⟩ := hX d hdN
    exact (zDist w1.1 w1.2 w2.1 w2.2 a1 a2 b1 b2).2
  unfold fX11_soundApart
  rw [dg_ok kF]
  have e := dlp_for (f := fun q => dP3 q (fun v2 v3 v4 => fX11_soundApart_l8 m (Int32.ofInt a) (Int32.ofInt b) v2 v3 v4)) (r := (Int32.ofInt (zPh (zMar kn il io) (zTs X Y a b) N).2, Int32.ofInt (zPh (zMar kn il io) (zTs X Y a b) N).1)) (fun k => (Int32.ofInt (k : Int), Int32.ofInt (zPh (zMar kn il io) (zTs X Y a b) k).1, Int32.ofInt (zPh (zMar kn il io) (zTs X Y a b) k).2)) N 0 N dFl (by omega) (by show N < 100000; omega) (fun k _ hk => by
    show fX11_soundApart_l8 m (Int32.ofInt a) (Int32.ofInt b) (Int32.ofInt (k : Int)) (Int32.ofInt (zPh (zMar kn il io) (zTs X Y a b) k).1) (Int32.ofInt (zPh (zMar kn il io) (zTs X Y a b) k).2) = some (.inl (Int32.ofInt ((k + 1 : Nat) : Int), Int32.ofInt (if zMar kn il io k = true then (if (zPh (zMar kn il io) (zTs X Y a b) k).1 < zTs X Y a b k then zTs X Y a b k else (zPh (zMar kn il io) (zTs X Y a b) k).1, if (zPh (zMar kn il io) (zTs X Y a b) k).2 = -1 then zTs X Y a b k else if zTs X Y a b k < (zPh (zMar kn il io) (zTs X Y a b) k).2 then zTs X Y a b k else (zPh (zMar kn il io) (zTs X Y a b) k).2) else zPh (zMar kn il io) (zTs X Y a b) k).1, Int32.ofInt (if zMar kn il io k = true then (if (zPh (zMar kn il io) (zTs X Y a b) k).1 < zTs X Y a b k then zTs X Y a b k else (zPh (zMar kn il io) (zTs X Y a b) k).1, if (zPh (zMar kn il io) (zTs X Y a b) k).2 = -1 then zTs X Y a b k else if zTs X Y a b k < (zPh (zMar kn il io) (zTs X Y a b) k).2 then zTs X Y a b k else (zPh (zMar kn il io) (zTs X Y a b) k).2) else zPh (zMar kn il io) (zTs X Y a b) k).2))
    have ih := zPh_in (mar := zMar kn il io) (T := zTs X Y a b) (n := k) (fun d hdk => bT d (by omega))
    have bk := bT k hk
    obtain ⟨w1, w2⟩ := hX k hk
    have bd := (zDist w1.1 w1.2 w2.1 w2.2 a1 a2 b1 b2).1
    have br := zRt_ok bd.1 (by omega)
    unfold fX11_soundApart_l8 fX1_number
    rw [dg_ok kDots, hdc.1, Option.bind_some, if_neg (by rw [zi_le (by omega) (by omega) (by omega) (by omega)]; omega), fX1_marches_ok hd hdc (by omega), Option.bind_some]
    by_cases c : zMar kn il io k = true
    · rw [c, if_neg (show ¬ zB true = 0 by decide), if_pos rfl, fX9_x_ok kSp391 (by omega), Option.bind_some, fX9_y_ok kSp391 (by omega), Option.bind_some, show m.1 (391 + 1) k = Int32.ofInt (X k) from (hm k hk).1, show m.1 (391 + 2) k = Int32.ofInt (Y k) from (hm k hk).2]
      unfold fX11_square
      rw [Option.bind_some, zi_sub, zi_sub, zi_mul, zi_mul, zi_add, show (X k - a) * (X k - a) + (Y k - b) * (Y k - b) = zSq (X k) (Y k) a b from rfl, fX11_rootDown_ok m bd.1 (by omega), Option.bind_some, show (6 : Int32) = Int32.ofInt 6 from rfl, fX11_downBy_ok m (by omega) (by omega) (by omega) (by omega), Option.bind_some, show zRt (zSq (X k) (Y k) a b) / 6 = zTs X Y a b k from rfl]
      generalize zTs X Y a b k = t at *
      generalize zPh (zMar kn il io) (zTs X Y a b) k = p at *
      obtain ⟨p1, p2⟩ := p
      show (if Int32.ofInt p2 = -1 then _ else _) = (some (Sum.inl (_, Int32.ofInt (if p1 < t then t else p1), Int32.ofInt (if p2 = -1 then t else if t < p2 then t else p2))) : Option ((Int32 × Int32 × Int32) ⊕ (Int32 × Int32)))
      have ih : (-1 ≤ p1 ∧ p1 ≤ 1000) ∧ -1 ≤ p2 ∧ p2 ≤ 1000 := ih
      rw [show (-1 : Int32) = Int32.ofInt (-1) from rfl, show (1 : Int32) = Int32.ofInt 1 from rfl, zi_add]
      have mx : (if Int32.ofInt p1 < Int32.ofInt t then Int32.ofInt t else Int32.ofInt p1) = Int32.ofInt (if p1 < t then t else p1) := by
        by_cases q : p1 < t
        · rw [if_pos q, if_pos (by rw [zi_lt (by omega) (by omega) (by omega) (by omega)]; exact q)]
        · rw [if_neg q, if_neg (by rw [zi_lt (by omega) (by omega) (by omega) (by omega)]; exact q)]
      rw [show (Int32.ofInt (p1, p2).1) = Int32.ofInt p1 from rfl, show (Int32.ofInt (p1, p2).2) = Int32.ofInt p2 from rfl, mx]
      by_cases q : p2 = -1
      · rw [if_pos (by rw [q]), if_pos q]; rfl
      · rw [if_neg (by rw [zi_eq (by omega) (by omega) (by omega) (by omega)]; exact q), if_neg q]
        by_cases q2 : t < p2
        · rw [if_pos (show Int32.ofInt t < Int32.ofInt p2 by rw [zi_lt (by omega) (by omega) (by omega) (by omega)]; exact q2), if_pos q2]; rfl
        · rw [if_neg (show ¬ Int32.ofInt t < Int32.ofInt p2 by rw [zi_lt (by omega) (by omega) (by omega) (by omega)]; exact q2), if_neg q2]; rfl
    · have c' : zMar kn il io k = false := by cases h : zMar kn il io k; rfl; exact absurd h c
      rw [c', if_pos (show zB false = 0 from rfl), if_neg (by decide), dlet_v, show (1 : Int32) = Int32.ofInt 1 from rfl, zi_add]; rfl) (by
    show fX11_soundApart_l8 m (Int32.ofInt a) (Int32.ofInt b) (Int32.ofInt (N : Int)) _ _ = _
    unfold fX11_soundApart_l8 fX1_number
    rw [dg_ok kDots, hdc.1, Option.bind_some, if_pos (Int32.le_refl _)])
  rw [show ((0 : Int32), (-1 : Int32), (-1 : Int32)) = (Int32.ofInt ((0 : Nat) : Int), Int32.ofInt (zPh (zMar kn il io) (zTs X Y a b) 0).1, Int32.ofInt (zPh (zMar kn il io) (zTs X Y a b) 0).2) from rfl, e, Option.bind_some]
  show some (_ - _) = _
  rw [zi_sub]
theorem zSt_in {N S P : Nat} {sx sy : Nat → Nat → Int} {so : Nat → Nat} {co te : Nat → Int} {lt : Nat → Bool} {go : Nat → Nat → Nat} (hs : zSr N S sx sy) (hr : zPr N S P sx sy so co te lt go) {i d : Nat} (hi : i < P) (hd : d < N) {c : Int} (hc : 0 ≤ c) (hc' : c ≤ co i) : (0 ≤ zSt (zX sx so go) co i c d ∧ zSt (zX sx so go) co i c d ≤ 1600) ∧ 0 ≤ zSt (zX sy so go) co i c d ∧ zSt (zX sy so go) co i c d ≤ 840 := by
  obtain ⟨r1, r2, r3, r4, r5, r6, r7⟩ := hr.2 i hi
  obtain ⟨b1, b2⟩ := zX_in hs hr hi hd
  obtain ⟨b3, b4⟩ := zX_in hs hr (show i - 1 < P by omega) hd
  exact ⟨zOn_in hc hc' (by omega) b3.1 b3.2 b1.1 b1.2, zOn_in hc hc' (by omega) b4.1 b4.2 b2.1 b2.2⟩
def zPhase (kn : Nat → Int) (il io : Nat → Bool) (X Y : Nat → Int) (a b : Int) (N : Nat) : Int := (zPh (zMar kn il io) (zTs X Y a b) N).1 - (zPh (zMar kn il io) (zTs X Y a b) N).2
theorem fX11_phase_ok {N S P : Nat} {le kn : Nat → Int} {il io : Nat → Bool} {sx sy : Nat → Nat → Int} {so : Nat → Nat} {co te : Nat → Int} {lt : Nat → Bool} {go : Nat → Nat → Nat} {m : dM} (hd : zDr N le kn) (hdc : zDc N le kn il io m) (hs : zSr N S sx sy) (hr : zPr N S P sx sy so co te lt go) (h : zPc N P sx sy so co te lt go m) {a c x y : Int} (a1 : -2147483648 ≤ a) (a2 : a < 2147483648) (c1 : -2147483648 ≤ c) (c2 : c < 2147483648) (x1 : -2147483648 ≤ x) (x2 : x < 2147483648) (y1 : -2147483648 ≤ y) (y2 : y < 2147483648) : fX11_phase m 0 (Int32.ofInt a) (Int32.ofInt c) (Int32.ofInt x) (Int32.ofInt y) = if 0 ≤ a ∧ a < P then if (0 ≤ c ∧ c ≤ co a.toNat) ∧ (0 ≤ x ∧ x ≤ 1600) ∧ -1000 ≤ y ∧ y ≤ -1 then some (.inr (Int32.ofInt (zPhase kn il io (zSt (zX sx so go) co a.toNat c) (zSt (zX sy so go) co a.toNat c) x y N), zW2 m 392 393 0 (zSt (zX sx so go) co a.toNat c) (zSt (zX sy so go) co a.toNat c) N)) else some (.inl (1, m)) else some (.inl (3, m)) := by
  have hP := hr.1
  have hN := hd.2.1
  unfold fX11_phase
  rw [dg_ok kF, fX11_needPart_ok hr h a1 a2]
  by_cases q1 : 0 ≤ a ∧ a < P
  · obtain ⟨i, rfl⟩ := zi_nat q1.1
    have hi : i < P := by omega
    have hco := (hr.2 i hi).2.1
    have hco2 := (hr.2 i hi).2.2.1
    rw [if_pos q1, if_pos q1, Option.bind_some, dS_r, fX8_numbered_ok (by omega), Option.bind_some, dg_ok (kPart (by omega)), Int.toNat_natCast]
    unfold fX5_counts
    rw [dg_ok (kPart (by omega)), Option.bind_some, (h.2 i hi).2.1, show (0 : Int32) = Int32.ofInt 0 from rfl, fX11_needRange_ok m c1 c2 (by omega) (by omega) (by omega) (by omega)]
    by_cases q2 : 0 ≤ c ∧ c ≤ co i
    · rw [if_pos q2, Option.bind_some, dS_r, show (1600 : Int32) = Int32.ofInt 1600 from rfl, fX11_needRange_ok m x1 x2 (by omega) (by omega) (by omega) (by omega)]
      by_cases q3 : 0 ≤ x ∧ x ≤ 1600
      · rw [if_pos q3, Option.bind_some, dS_r, show (-1000 : Int32) = Int32.ofInt (-1000) from rfl, show (-1 : Int32) = Int32.ofInt (-1) from rfl, fX11_needRange_ok m y1 y2 (by omega) (by omega) (by omega) (by omega)]
        by_cases q4 : -1000 ≤ y ∧ y ≤ -1
        · rw [if_pos q4, Option.bind_some, dS_r, if_pos ⟨q2, q3, q4⟩]
          unfold fX1_number
          rw [dg_ok kDots, hdc.1, Option.bind_some, fX5_stand_ok hN hs hr h hi kSp391 (by omega) q2.1 q2.2, Option.bind_some]
          have hdc' : zDc N le kn il io (zW2 m (391 + 1) (391 + 2) 0 (zSt (zX sx so go) co i c) (zSt (zX sy so go) co i c) N) := hdc.to (fun a q1 q2 => zW2_ne (by omega) (by omega))
          rw [fX11_soundApart_ok hd hdc' (X := zSt (zX sx so go) co i c) (Y := zSt (zX sy so go) co i c) (fun d hdN => zSt_in hs hr hi hdN q2.1 q2.2) (fun d hdN => ?_) q3.1 q3.2 q4.1 q4.2, Option.bind_some]
          · rfl
          · have e1 := zW2_a (m := m) (a := 392) (b := 393) (o := 0) (f := zSt (zX sx so go) co i c) (g := zSt (zX sy so go) co i c) hdN
            have e2 := zW2_b (m := m) (a := 392) (b := 393) (o := 0) (f := zSt (zX sx so go) co i c) (g := zSt (zX sy so go) co i c) (by decide) hdN
            rw [Nat.zero_add] at e1 e2
            exact ⟨e1, e2⟩
        · rw [if_neg q4, if_neg (fun w => q4 w.2.2)]; rfl
      · rw [if_neg q3, if_neg (fun w => q3 w.2.1)]; rfl
    · rw [if_neg q2, if_neg (fun w => q2 w.1)]; rfl
  · rw [if_neg q1, if_neg q1]; rfl
