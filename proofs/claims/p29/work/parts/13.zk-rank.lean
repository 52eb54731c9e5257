theorem zSum_congr {f g : Nat → Int} : ∀ n : Nat, (∀ d, d < n → f d = g d) → zSum f n = zSum g n
  | 0, _ => rfl
  | n + 1, h => by show zSum f n + f n = zSum g n + g n; rw [zSum_congr n (fun d hd => h d (by omega)), h n (by omega)]
theorem zSum_le {f g : Nat → Int} : ∀ n : Nat, (∀ d, d < n → f d ≤ g d) → zSum f n ≤ zSum g n
  | 0, _ => by show (0 : Int) ≤ 0; omega
  | n + 1, h => by
    have a := zSum_le n (fun d hd => h d (by omega))
    have b := h n (by omega)
    show zSum f n + f n ≤ zSum g n + g n; omega
theorem zSum_lt {f g : Nat → Int} : ∀ n : Nat, (∀ d, d < n → f d ≤ g d) → (∃ d, d < n ∧ f d < g d) → zSum f n < zSum g n
  | 0, _, ⟨d, hd, _⟩ => by omega
  | n + 1, h, ⟨d, hd, e⟩ => by
    have b := h n (by omega)
    show zSum f n + f n < zSum g n + g n
    by_cases q : d = n
    · subst q
      have a := zSum_le d (fun d hd => h d (by omega))
      omega
    · have a := zSum_lt n (fun d hd => h d (by omega)) ⟨d, by omega, e⟩
      omega
theorem zSum_add {f g : Nat → Int} : ∀ n : Nat, zSum (fun d => f d + g d) n = zSum f n + zSum g n
  | 0 => rfl
  | n + 1 => by
    have a := zSum_add (f := f) (g := g) n
    show zSum (fun d => f d + g d) n + (f n + g n) = zSum f n + f n + (zSum g n + g n); omega
theorem zSum_0 : ∀ n : Nat, zSum (fun _ => 0) n = 0
  | 0 => rfl
  | n + 1 => by show zSum (fun _ => 0) n + 0 = 0; rw [zSum_0 n]; rfl
theorem zSum_swap {f : Nat → Nat → Int} {k : Nat} : ∀ n : Nat, zSum (fun d => zSum (fun p => f d p) k) n = zSum (fun p => zSum (fun d => f d p) n) k
  | 0 => (zSum_0 k).symm
  | n + 1 => by
    show zSum (fun d => zSum (fun p => f d p) k) n + zSum (fun p => f n p) k = zSum (fun p => zSum (fun d => f d p) n + f n p) k
    rw [zSum_swap n, zSum_add]
theorem zPig : ∀ (n : Nat) (f : Nat → Nat), zInj n f → ∀ r, r < n → ∃ d, d < n ∧ f d = r
  | 0, _, _, r, h => by omega
  | n + 1, f, h, r, hr => by
    have hL := h.1 n (by omega)
    have hne : ∀ d, d < n → f d ≠ f n := fun d hd q => by have := h.2 d n (by omega) (by omega) q; omega
    have hg : zInj n (fun d => if f d = n then f n else f d) := by
      refine ⟨fun d hd => ?_, fun d e hd he q => ?_⟩
      · have a := h.1 d (by omega)
        have b := hne d hd
        show (if f d = n then f n else f d) < n
        by_cases c : f d = n
        · rw [if_pos c]; omega
        · rw [if_neg c]; omega
      · have q : (if f d = n then f n else f d) = (if f e = n then f n else f e) := q
        have b1 := hne d hd
        have b2 := hne e he
        refine h.2 d e (by omega) (by omega) ?_
        by_cases c : f d = n
        · by_cases c2 : f e = n
          · omega
          · rw [if_pos c, if_neg c2] at q; omega
        · by_cases c2 : f e = n
          · rw [if_neg c, if_pos c2] at q; omega
          · rw [if_neg c, if_neg c2] at q; omega
    by_cases c : r = f n
    · exact ⟨n, by omega, c.symm⟩
    · by_cases c2 : r = n
      · obtain ⟨d, hd, e⟩ := zPig n _ hg (f n) (by omega)
        have e : (if f d = n then f n else f d) = f n := e
        by_cases c3 : f d = n
        · exact ⟨d, by omega, by omega⟩
        · rw [if_neg c3] at e; exact absurd e (hne d hd)
      · obtain ⟨d, hd, e⟩ := zPig n _ hg r (by omega)
        have e : (if f d = n then f n else f d) = r := e
        by_cases c3 : f d = n
        · rw [if_pos c3] at e; omega
        · rw [if_neg c3] at e; exact ⟨d, by omega, e⟩
theorem zSum_one {v : Int} {n : Nat} {f : Nat → Nat} {p d : Nat} (hd : d < n) (e : f d = p) (h : ∀ c, c < n → f c = p → c = d) : zSum (fun c => if f c = p then v else 0) n = v := by
  have : ∀ k, k ≤ n → zSum (fun c => if f c = p then v else 0) k = if d < k then v else 0 := by
    intro k
    induction k with
    | zero => intro _; rfl
    | succ k ih =>
      intro hk
      show zSum (fun c => if f c = p then v else 0) k + (if f k = p then v else 0) = _
      rw [ih (by omega)]
      by_cases c : f k = p
      · have := h k (by omega) c
        subst this
        rw [if_pos c, if_neg (by omega), if_pos (by omega)]; omega
      · rw [if_neg c]
        have : d ≠ k := fun q => c (by rw [← q]; exact e)
        by_cases c2 : d < k
        · rw [if_pos c2, if_pos (by omega)]; omega
        · rw [if_neg c2, if_neg (by omega)]; omega
  rw [this n (by omega), if_pos hd]
theorem zSum_perm {n : Nat} {f : Nat → Nat} (h : zInj n f) (v : Nat → Int) : zSum (fun d => v (f d)) n = zSum v n := by
  have a : zSum (fun d => v (f d)) n = zSum (fun d => zSum (fun p => if f d = p then v p else 0) n) n := by
    refine zSum_congr n (fun d hd => ?_)
    have := zSum_one (v := v (f d)) (n := n) (f := fun p => p) (p := f d) (d := f d) (h.1 d hd) rfl (fun c _ q => q)
    rw [← this]
    refine zSum_congr n (fun p hp => ?_)
    show (if p = f d then v (f d) else 0) = if f d = p then v p else 0
    by_cases q : p = f d
    · rw [if_pos q, if_pos q.symm, q]
    · rw [if_neg q, if_neg (fun z => q z.symm)]
  rw [a, zSum_swap]
  refine zSum_congr n (fun p hp => ?_)
  obtain ⟨d, hd, e⟩ := zPig n f h p hp
  exact zSum_one hd e (fun c hc q => h.2 c d hc hd (by rw [q, e]))
/-- what decides between two, after k captions were looked at -/
def zAc (cap : Nat → Nat → Int) (s : Nat → Int) (a b : Nat) : Nat → Int | 0 => s a - s b | k + 1 => if zAc cap s a b k = 0 then cap a k - cap b k else zAc cap s a b k
def zAhead (cap : Nat → Nat → Int) (s : Nat → Int) (a b : Nat) : Bool := decide (0 < zAc cap s a b 4 ∨ (zAc cap s a b 4 = 0 ∧ a < b))
theorem zAc_up {cap : Nat → Nat → Int} {s : Nat → Int} {a b k : Nat} (h : zAc cap s a b k ≠ 0) : ∀ j, zAc cap s a b (k + j) = zAc cap s a b k
  | 0 => rfl
  | j + 1 => by
    show (if zAc cap s a b (k + j) = 0 then _ else zAc cap s a b (k + j)) = _
    rw [zAc_up h j, if_neg h]
theorem zAc_in {cap : Nat → Nat → Int} {s : Nat → Int} {a b : Nat} (h1 : ∀ c, c < 4 → 0 ≤ cap a c ∧ cap a c ≤ 1000) (h2 : ∀ c, c < 4 → 0 ≤ cap b c ∧ cap b c ≤ 1000) (h3 : 0 ≤ s a ∧ s a ≤ 1000) (h4 : 0 ≤ s b ∧ s b ≤ 1000) : ∀ k, k ≤ 4 → -1000 ≤ zAc cap s a b k ∧ zAc cap s a b k ≤ 1000
  | 0, _ => by show -1000 ≤ s a - s b ∧ s a - s b ≤ 1000; omega
  | k + 1, h => by
    have := zAc_in h1 h2 h3 h4 k (by omega)
    have q1 := h1 k (by omega); have q2 := h2 k (by omega)
    unfold zAc
    split <;> omega
theorem fX0_told_ok {lo hi : Int} {cap : Nat → Nat → Int} {pen : Nat → Int} {m : dM} (h : zCc lo hi cap pen m) {b c : Nat} (hb : b < 6) (hc : c < 4) : fX0_told m 435 (Int32.ofInt b) (Int32.ofInt c) = some (Int32.ofInt (cap b c)) := by
  obtain ⟨k1, k2⟩ := kCap hb
  unfold fX0_told
  rw [dg_ok kCon, show (0 : Int32) = Int32.ofInt 0 from rfl, show (5 : Int32) = Int32.ofInt 5 from rfl, show (3 : Int32) = Int32.ofInt 3 from rfl, fX11_isWithin_ok m (by omega) (by omega) (by omega) (by omega) (by omega) (by omega), if_pos (by omega), Option.bind_some, if_neg (show ¬ (1 : Int32) = Int32.ofInt 0 by decide), fX11_isWithin_ok m (by omega) (by omega) (by omega) (by omega) (by omega) (by omega), if_pos (by omega), Option.bind_some, if_neg (show ¬ (1 : Int32) = Int32.ofInt 0 by decide), kd436, zi_cn (by omega), k2, zi_cn (by omega), dg_ok (dIx_nat hb (by decide)), dg_ok k1, dg_ok (dIx_nat hc (by decide))]
  have := (h.2.2 b hb).2 c hc
  rw [show m.1 (436 + 1 + b) c = Int32.ofInt (cap b c) from this]
theorem fX0_isAhead_ok {lo hi T : Int} {cap : Nat → Nat → Int} {pen : Nat → Int} {m : dM} (hr : zCr lo hi cap pen) (h : zCc lo hi cap pen m) (hT : 0 ≤ T) (hT' : T ≤ 10000) {a b : Nat} (ha : a < 6) (hb : b < 6) : fX0_isAhead m 435 (Int32.ofInt a) (Int32.ofInt b) (Int32.ofInt T) = some (zB (zAhead cap (zPts lo hi cap pen T) a b)) := by
  have w1 := (hr.2.2.2 a ha).2.2
  have w2 := (hr.2.2.2 b hb).2.2
  have bd := zAc_in w1 w2 (zPts_in hr hT hT' ha) (zPts_in hr hT hT' hb)
  unfold fX0_isAhead
  rw [dg_ok kCon, fX0_points_ok hr h hT hT' ha, Option.bind_some, fX0_points_ok hr h hT hT' hb, Option.bind_some, dlet_v, zi_sub]
  obtain ⟨r, e, hq⟩ := dlp_inv (f := fun q => dP2 q (fun v7 v8 => fX0_isAhead_l18 m 435 (Int32.ofInt a) (Int32.ofInt b) v7 v8)) (Q := fun r => r = Int32.ofInt (zAc cap (zPts lo hi cap pen T) a b 4)) (fun k s => s = (Int32.ofInt (k : Int), Int32.ofInt (zAc cap (zPts lo hi cap pen T) a b k))) 4
    (fun k s hk e => by
      subst e
      show (∃ s', fX0_isAhead_l18 m 435 (Int32.ofInt a) (Int32.ofInt b) (Int32.ofInt (k : Int)) (Int32.ofInt (zAc cap (zPts lo hi cap pen T) a b k)) = _ ∧ _) ∨ ∃ r, fX0_isAhead_l18 m 435 (Int32.ofInt a) (Int32.ofInt b) (Int32.ofInt (k : Int)) (Int32.ofInt (zAc cap (zPts lo hi cap pen T) a b k)) = _ ∧ _
      have b0 := bd k (by omega)
      unfold fX0_isAhead_l18
      rw [show (4 : Int32) = Int32.ofInt 4 from rfl, show (0 : Int32) = Int32.ofInt 0 from rfl, if_neg (by rw [zi_le (by omega) (by omega) (by omega) (by omega)]; omega)]
      by_cases c : zAc cap (zPts lo hi cap pen T) a b k = 0
      · refine Or.inl ⟨_, ?_, rfl⟩
        rw [if_pos (by rw [c]), fX0_told_ok h ha hk, Option.bind_some, fX0_told_ok h hb hk, Option.bind_some, dlet_v, dlet_v, zi_sub, show (1 : Int32) = Int32.ofInt 1 from rfl, zi_add]
        show _ = some (Sum.inl (_, Int32.ofInt (if zAc cap (zPts lo hi cap pen T) a b k = 0 then _ else _)))
        rw [if_pos c]; rfl
      · refine Or.inr ⟨_, ?_, rfl⟩
        rw [if_neg (by rw [zi_eq (by omega) (by omega) (by omega) (by omega)]; exact c), ← zAc_up c (4 - k), show k + (4 - k) = 4 by omega])
    (fun s e => by
      subst e
      refine ⟨_, ?_, rfl⟩
      show fX0_isAhead_l18 m 435 (Int32.ofInt a) (Int32.ofInt b) (Int32.ofInt ((4 : Nat) : Int)) (Int32.ofInt (zAc cap (zPts lo hi cap pen T) a b 4)) = _
      unfold fX0_isAhead_l18
      rw [if_pos (by decide)]) 4 0 dFl (0, Int32.ofInt (zPts lo hi cap pen T a - zPts lo hi cap pen T b)) (by omega) (by decide) rfl
  subst hq
  rw [e, Option.bind_some]
  unfold dP1 zAhead
  have b4 := bd 4 (by omega)
  generalize zAc cap (zPts lo hi cap pen T) a b 4 = z at *
  rw [show (0 : Int32) = Int32.ofInt 0 from rfl]
  simp only [zi_eq (a := z) (b := 0) (by omega) (by omega) (by omega) (by omega), zi_le (a := z) (b := 0) (by omega) (by omega) (by omega) (by omega), zi_le (a := (b : Int)) (b := (a : Int)) (by omega) (by omega) (by omega) (by omega)]
  by_cases c : z = 0
  · rw [if_pos c]
    by_cases c2 : (b : Int) ≤ a
    · rw [if_pos c2, decide_eq_false (by omega)]; rfl
    · rw [if_neg c2, decide_eq_true (by omega)]; rfl
  · rw [if_neg c]
    by_cases c2 : z ≤ 0
    · rw [if_pos c2, decide_eq_false (by omega)]; rfl
    · rw [if_neg c2, decide_eq_true (by omega)]; rfl
theorem zAhead_iff {cap : Nat → Nat → Int} {s : Nat → Int} {a b : Nat} : zAhead cap s a b = true ↔ (s b < s a ∨ (s a = s b ∧ (cap b 0 < cap a 0 ∨ (cap a 0 = cap b 0 ∧ (cap b 1 < cap a 1 ∨ (cap a 1 = cap b 1 ∧ (cap b 2 < cap a 2 ∨ (cap a 2 = cap b 2 ∧ (cap b 3 < cap a 3 ∨ (cap a 3 = cap b 3 ∧ a < b)))))))))) := by
  unfold zAhead
  rw [decide_eq_true_eq]
  have e0 : zAc cap s a b 0 = s a - s b := rfl
  have e1 : zAc cap s a b 1 = if zAc cap s a b 0 = 0 then cap a 0 - cap b 0 else zAc cap s a b 0 := rfl
  have e2 : zAc cap s a b 2 = if zAc cap s a b 1 = 0 then cap a 1 - cap b 1 else zAc cap s a b 1 := rfl
  have e3 : zAc cap s a b 3 = if zAc cap s a b 2 = 0 then cap a 2 - cap b 2 else zAc cap s a b 2 := rfl
  have e4 : zAc cap s a b 4 = if zAc cap s a b 3 = 0 then cap a 3 - cap b 3 else zAc cap s a b 3 := rfl
  split at e1 <;> split at e2 <;> split at e3 <;> split at e4 <;> omega
def zRank (ah : Nat → Nat → Bool) (v : Nat) (n : Nat) : Int := zSum (fun k => if ah k v = true then 1 else 0) n
theorem zRank_in {ah : Nat → Nat → Bool} {v : Nat} : ∀ n, 0 ≤ zRank ah v n ∧ zRank ah v n ≤ n
  | 0 => ⟨by show (0 : Int) ≤ 0; omega, by show (0 : Int) ≤ 0; omega⟩
  | n + 1 => by
    have := zRank_in (ah := ah) (v := v) n
    have e : zRank ah v (n + 1) = zRank ah v n + if ah n v = true then 1 else 0 := rfl
    rw [e]
    split <;> omega
/-- each rank has its band, one alone -/
theorem zRank_ex {cap : Nat → Nat → Int} {s : Nat → Int} {r : Nat} (hr : r < 6) : ∃ v, v < 6 ∧ zRank (zAhead cap s) v 6 = r ∧ ∀ k, k < 6 → zRank (zAhead cap s) k 6 = r → k = v := by
  have lt : ∀ a b, a < 6 → b < 6 → zAhead cap s a b = true → zRank (zAhead cap s) a 6 < zRank (zAhead cap s) b 6 := by
    intro a b ha hb h
    refine zSum_lt 6 (fun d hd => ?_) ⟨a, ha, ?_⟩
    · show (if zAhead cap s d a = true then (1 : Int) else 0) ≤ if zAhead cap s d b = true then 1 else 0
      by_cases c : zAhead cap s d a = true
      · have : zAhead cap s d b = true := by rw [zAhead_iff] at *; omega
        rw [if_pos c, if_pos this]; omega
      · rw [if_neg c]; split <;> omega
    · show (if zAhead cap s a a = true then (1 : Int) else 0) < if zAhead cap s a b = true then 1 else 0
      rw [if_pos h, if_neg (by rw [zAhead_iff]; omega)]; omega
  have hlt : ∀ v, v < 6 → 0 ≤ zRank (zAhead cap s) v 6 ∧ zRank (zAhead cap s) v 6 < 6 := by
    intro v hv
    refine ⟨(zRank_in 6).1, ?_⟩
    have a : zRank (zAhead cap s) v 6 < zSum (fun _ => 1) 6 := by
      refine zSum_lt 6 (fun d hd => ?_) ⟨v, hv, ?_⟩
      · show (if zAhead cap s d v = true then (1 : Int) else 0) ≤ 1
        split <;> omega
      · show (if zAhead cap s v v = true then (1 : Int) else 0) < 1
        rw [if_neg (by rw [zAhead_iff]; omega)]; omega
    exact a
  have inj : zInj 6 (fun v => (zRank (zAhead cap s) v 6).toNat) := by
    refine ⟨fun d hd => by have := hlt d hd; show (zRank (zAhead cap s) d 6).toNat < 6; omega, fun d e hd he q => ?_⟩
    have q : (zRank (zAhead cap s) d 6).toNat = (zRank (zAhead cap s) e 6).toNat := q
    have b1 := hlt d hd
    have b2 := hlt e he
    by_cases c : d = e
    · exact c
    · have : zAhead cap s d e = true ∨ zAhead cap s e d = true := by
        rw [zAhead_iff, zAhead_iff]; omega
      rcases this with w | w
      · have := lt d e hd he w; omega
      · have := lt e d he hd w; omega
  obtain ⟨v, hv, e⟩ := zPig 6 _ inj r hr
  have e : (zRank (zAhead cap s) v 6).toNat = r := e
  have b1 := hlt v hv
  refine ⟨v, hv, by omega, fun k hk q => inj.2 k v hk hv ?_⟩
  show (zRank (zAhead cap s) k 6).toNat = (zRank (zAhead cap s) v 6).toNat
  omega
theorem fX0_bandAt_ok {lo hi T : Int} {cap : Nat → Nat → Int} {pen : Nat → Int} {m : dM} (hr : zCr lo hi cap pen) (h : zCc lo hi cap pen m) (hT : 0 ≤ T) (hT' : T ≤ 10000) {r v : Nat} (hr6 : r < 6) (hv : v < 6) (hq : zRank (zAhead cap (zPts lo hi cap pen T)) v 6 = r) (hu : ∀ k, k < 6 → zRank (zAhead cap (zPts lo hi cap pen T)) k 6 = r → k = v) : fX0_bandAt m 435 (Int32.ofInt r) (Int32.ofInt T) = some (Int32.ofInt v) := by
  have cnt : ∀ b : Nat, b < 6 → (dlp (fun q => dP2 q (fun v21 v22 => fX0_bandAt_l14 m 435 (Int32.ofInt T) (Int32.ofInt b) v21 v22)) dFl (0, 0)) = some (Int32.ofInt (zRank (zAhead cap (zPts lo hi cap pen T)) b 6)) := by
    intro b hb
    refine dlp_for (f := fun q => dP2 q (fun v21 v22 => fX0_bandAt_l14 m 435 (Int32.ofInt T) (Int32.ofInt b) v21 v22)) (fun k => (Int32.ofInt (k : Int), Int32.ofInt (zRank (zAhead cap (zPts lo hi cap pen T)) b k))) 6 0 6 dFl (by omega) (by decide) (fun k _ hk => ?_) ?_
    · show fX0_bandAt_l14 m 435 (Int32.ofInt T) (Int32.ofInt b) (Int32.ofInt (k : Int)) (Int32.ofInt (zRank (zAhead cap (zPts lo hi cap pen T)) b k)) = some (.inl (Int32.ofInt ((k + 1 : Nat) : Int), Int32.ofInt (zRank (zAhead cap (zPts lo hi cap pen T)) b k + if zAhead cap (zPts lo hi cap pen T) k b = true then 1 else 0)))
      unfold fX0_bandAt_l14
      rw [show (6 : Int32) = Int32.ofInt 6 from rfl, if_neg (by rw [zi_le (by omega) (by omega) (by omega) (by omega)]; omega), show (1 : Int32) = Int32.ofInt 1 from rfl, zi_add, zi_add]
      by_cases c : k = b
      · subst c
        rw [if_pos rfl, dlet_v, if_neg (by rw [zAhead_iff]; omega), Int.add_zero]; rfl
      · rw [if_neg (by rw [zi_eq (by omega) (by omega) (by omega) (by omega)]; omega), fX0_isAhead_ok hr h hT hT' hk hb, Option.bind_some]
        cases zAhead cap (zPts lo hi cap pen T) k b
        · rw [if_pos (show zB false = 0 from rfl), dlet_v, if_neg (by decide), Int.add_zero]; rfl
        · rw [if_neg (show ¬ zB true = 0 by decide), dlet_v, dlet_v, if_pos rfl]; rfl
    · show fX0_bandAt_l14 m 435 (Int32.ofInt T) (Int32.ofInt b) (Int32.ofInt ((6 : Nat) : Int)) (Int32.ofInt (zRank (zAhead cap (zPts lo hi cap pen T)) b 6)) = _
      unfold fX0_bandAt_l14
      rw [if_pos (by decide)]
  unfold fX0_bandAt
  rw [dg_ok kCon]
  have e := dlp_for (f := fun v2 => fX0_bandAt_l2 m 435 (Int32.ofInt r) (Int32.ofInt T) v2) (r := .inl (Int32.ofInt v)) (fun k => Int32.ofInt (k : Int)) v 0 v dFl (by omega) (by show v < 100000; omega) (fun k _ hk => by
      show fX0_bandAt_l2 m 435 (Int32.ofInt r) (Int32.ofInt T) (Int32.ofInt (k : Int)) = some (.inl (Int32.ofInt ((k + 1 : Nat) : Int)))
      have b0 := zRank_in (ah := zAhead cap (zPts lo hi cap pen T)) (v := k) 6
      unfold fX0_bandAt_l2
      rw [show (6 : Int32) = Int32.ofInt 6 from rfl, if_neg (by rw [zi_le (by omega) (by omega) (by omega) (by omega)]; omega), cnt k (by omega), Option.bind_some]
      show (if _ = _ then _ else _) = _
      rw [if_neg (by rw [zi_eq (by omega) (by omega) (by omega) (by omega)]; exact fun q => absurd (hu k (by omega) q) (by omega)), dlet_v, show (1 : Int32) = Int32.ofInt 1 from rfl, zi_add]
      rfl) (by
      show fX0_bandAt_l2 m 435 (Int32.ofInt r) (Int32.ofInt T) (Int32.ofInt (v : Int)) = _
      unfold fX0_bandAt_l2
      rw [show (6 : Int32) = Int32.ofInt 6 from rfl, if_neg (by rw [zi_le (by omega) (by omega) (by omega) (by omega)]; omega), cnt v hv, Option.bind_some]
      show (if _ = _ then _ else _) = _
      rw [if_pos (by rw [hq])])
  rw [show (0 : Int32) = Int32.ofInt ((0 : Nat) : Int) from rfl, e]
  rfl
