theorem fX11_part_ok {N S P pp : Nat} {le kn : Nat → Int} {il io : Nat → Bool} {sx sy : Nat → Nat → Int} {so : Nat → Nat} {co te : Nat → Int} {lt : Nat → Bool} {go : Nat → Nat → Nat} {px py : Nat → Nat → Int} {lo hi : Int} {cap : Nat → Nat → Int} {pen : Nat → Int} {m : dM} (K : zK N S P pp le kn il io sx sy so co te lt go px py lo hi cap pen m) (l : Bool) {a c t : Int} (a1 : -2147483648 ≤ a) (a2 : a < 2147483648) (c1 : -2147483648 ≤ c) (c2 : c < 2147483648) (t1 : -2147483648 ≤ t) (t2 : t < 2147483648) : fX11_part m 0 (Int32.ofInt a) (Int32.ofInt c) (Int32.ofInt t) (zB l) = if 0 ≤ a ∧ a < S then if 1 ≤ c ∧ c ≤ 64 then if 60 ≤ t ∧ t ≤ 240 then if P < 12 then (fX8_findFrom (d1 (d1 (d1 (d1 (d1 m 47 3 (Int32.ofInt ((P + 1 : Nat) : Int))) (49 + 8 * P) 3 (Int32.ofInt a)) (49 + 8 * P) 4 (Int32.ofInt c)) (49 + 8 * P) 5 (Int32.ofInt t)) (49 + 8 * P) 6 (zB l)) 47 (Int32.ofInt (P : Int)) 6 (Int32.ofInt (N : Int))).bind (fun m28 => some (.inr (Int32.ofInt (P : Int), m28))) else some (.inl (2, m)) else some (.inl (1, m)) else some (.inl (1, m)) else some (.inl (3, m)) := by
  obtain ⟨h0, h1, h2, h3, h5, h6, h8, h9, h11, h12⟩ := K
  have hS := h2.1
  have hP := h5.1
  unfold fX11_part fX7_number
  rw [dg_ok kF, dg_ok kSets, h3.1, Option.bind_some, fX11_needIndex_ok m a1 a2 (by omega) (by omega)]
  by_cases q1 : 0 ≤ a ∧ a < S
  · rw [if_pos q1, if_pos q1, Option.bind_some, dS_r, show fX11_needRange m (Int32.ofInt c) 1 64 = _ from fX11_needRange_ok m (b := 1) (c := 64) c1 c2 (by omega) (by omega) (by omega) (by omega)]
    by_cases q2 : 1 ≤ c ∧ c ≤ 64
    · rw [if_pos q2, if_pos q2, Option.bind_some, dS_r, show fX11_needRange m (Int32.ofInt t) 60 240 = _ from fX11_needRange_ok m (b := 60) (c := 240) t1 t2 (by omega) (by omega) (by omega) (by omega)]
      by_cases q3 : 60 ≤ t ∧ t ≤ 240
      · rw [if_pos q3, if_pos q3, Option.bind_some, dS_r]
        unfold fX8_number
        rw [dg_ok kShow, h6.1, Option.bind_some, show (12 : Int32) = Int32.ofInt 12 from rfl]
        by_cases q4 : P < 12
        · rw [if_pos q4, if_pos (by rw [zi_lt (by omega) (by omega) (by omega) (by omega)]; omega)]
          unfold fX8_grow
          rw [dg_ok kShow, h6.1, dlet_v, zi_1, show (12 : Int32) = Int32.ofInt 12 from rfl, if_neg (by rw [zi_lt (by omega) (by omega) (by omega) (by omega)]; omega), dlet_v, Option.bind_some, dP2_v, fX8_numbered_ok q4, Option.bind_some, dg_ok (kPart q4), fX5_tell_ok q4, Option.bind_some]
          unfold fX1_number
          rw [dg_ok kDots, zd1_ne (by omega), zd1_ne (by omega), zd1_ne (by omega), zd1_ne (by omega), zd1_ne (by omega), h1.1, Option.bind_some]
          rfl
        · rw [if_neg q4, if_neg (by rw [zi_lt (by omega) (by omega) (by omega) (by omega)]; omega)]
      · rw [if_neg q3, if_neg q3]; rfl
    · rw [if_neg q2, if_neg q2]; rfl
  · rw [if_neg q1, if_neg q1]; rfl
theorem K_part {N S P pp : Nat} {le kn : Nat → Int} {il io : Nat → Bool} {sx sy : Nat → Nat → Int} {so : Nat → Nat} {co te : Nat → Int} {lt : Nat → Bool} {go : Nat → Nat → Nat} {px py : Nat → Nat → Int} {lo hi : Int} {cap : Nat → Nat → Int} {pen : Nat → Int} {m : dM} (K : zK N S P pp le kn il io sx sy so co te lt go px py lo hi cap pen m) (l : Bool) {a c t : Int} (ha : 0 ≤ a ∧ a < S) (hc : 1 ≤ c ∧ c ≤ 64) (ht : 60 ≤ t ∧ t ≤ 240) (hP : P < 12) : ∃ (m' : dM) (go' : Nat → Nat → Nat), fX11_part m 0 (Int32.ofInt a) (Int32.ofInt c) (Int32.ofInt t) (zB l) = some (.inr (Int32.ofInt (P : Int), m')) ∧ zK N S (P + 1) pp le kn il io sx sy (zUp so P a.toNat) (zUp co P c) (zUp te P t) (zUp lt P l) go' px py lo hi cap pen m' := by
  have hS := K.2.2.1.1
  have X1 := fX11_part_ok K l (a := a) (c := c) (t := t) (by omega) (by omega) (by omega) (by omega) (by omega) (by omega)
  rw [if_pos ha, if_pos hc, if_pos ht, if_pos hP] at X1
  obtain ⟨h0, h1, h2, h3, h5, h6, h8, h9, h11, h12⟩ := K
  obtain ⟨s, rfl⟩ := zi_nat ha.1
  obtain ⟨M, go', e, w1, w2, w3, w4⟩ := zTell (m := d1 m 47 3 (Int32.ofInt ((P + 1 : Nat) : Int))) (P := P + 1) (k := P) (s := s) (l := l) (so := so) (co := co) (te := te) (lt := lt) (go := go) h0.1 h0.2.1 h2 (h3.to hS (fun a q1 q2 => zd1_ne (by omega))) (by omega) (by omega) zd1_at (by omega) hc ht (fun i hi hne => by
    obtain ⟨c1, c2, c3, c4, c5⟩ := h6.2 i (by omega)
    obtain ⟨r1, r2, r3, r4, r5, r6, r7⟩ := h5.2 i (by omega)
    rw [zd1_ne (by omega)]
    exact ⟨⟨r1, r2, r3, r4, r5⟩, c1, c2, c3, c4⟩) (fun i hi => by
    obtain ⟨c1, c2, c3, c4, c5⟩ := h6.2 i hi
    obtain ⟨r1, r2, r3, r4, r5, r6, r7⟩ := h5.2 i hi
    refine ⟨r6, r7, fun d hd => ?_⟩
    rw [zd1_ne (by omega), zd1_ne (by omega), zd1_ne (by omega), zd1_ne (by omega), zd1_ne (by omega)]
    exact c5 d hd)
  have fM : ∀ a, a < 47 ∨ 171 ≤ a → M.1 a = m.1 a := fun a ha => by rw [w1 a (by omega), zd1_ne (by omega)]
  rw [Int.toNat_natCast]
  exact ⟨M, go', by rw [X1, e, Option.bind_some], h0, h1.to (fun a q1 q2 => fM a (by omega)), h2, h3.to hS (fun a q1 q2 => fM a (by omega)), w3, w4, h8, h9.to h8.1 (fun a q1 q2 => fM a (by omega)), h11, h12.to (fun a q1 q2 => fM a (by omega))⟩
theorem fX11_change_ok {N S P pp : Nat} {le kn : Nat → Int} {il io : Nat → Bool} {sx sy : Nat → Nat → Int} {so : Nat → Nat} {co te : Nat → Int} {lt : Nat → Bool} {go : Nat → Nat → Nat} {px py : Nat → Nat → Int} {lo hi : Int} {cap : Nat → Nat → Int} {pen : Nat → Int} {m : dM} (K : zK N S P pp le kn il io sx sy so co te lt go px py lo hi cap pen m) (l : Bool) {b a c t : Int} (b1 : -2147483648 ≤ b) (b2 : b < 2147483648) (a1 : -2147483648 ≤ a) (a2 : a < 2147483648) (c1 : -2147483648 ≤ c) (c2 : c < 2147483648) (t1 : -2147483648 ≤ t) (t2 : t < 2147483648) : fX11_change m 0 (Int32.ofInt b) (Int32.ofInt a) (Int32.ofInt c) (Int32.ofInt t) (zB l) = if 0 ≤ b ∧ b < P then if 0 ≤ a ∧ a < S then if 1 ≤ c ∧ c ≤ 64 then if 60 ≤ t ∧ t ≤ 240 then (fX8_findFrom (d1 (d1 (d1 (d1 m (49 + 8 * b.toNat) 3 (Int32.ofInt a)) (49 + 8 * b.toNat) 4 (Int32.ofInt c)) (49 + 8 * b.toNat) 5 (Int32.ofInt t)) (49 + 8 * b.toNat) 6 (zB l)) 47 (Int32.ofInt b) 6 (Int32.ofInt (N : Int))).bind (fun m28 => some (.inr m28)) else some (.inl (1, m)) else some (.inl (1, m)) else some (.inl (3, m)) else some (.inl (3, m)) := by
  obtain ⟨h0, h1, h2, h3, h5, h6, h8, h9, h11, h12⟩ := K
  have hS := h2.1
  have hP := h5.1
  unfold fX11_change fX7_number
  rw [dg_ok kF, fX11_needPart_ok h5 h6 b1 b2]
  by_cases q0 : 0 ≤ b ∧ b < P
  · obtain ⟨k, rfl⟩ := zi_nat q0.1
    rw [if_pos q0, if_pos q0, Option.bind_some, dS_r, dg_ok kSets, h3.1, Option.bind_some, fX11_needIndex_ok m a1 a2 (by omega) (by omega), Int.toNat_natCast]
    by_cases q1 : 0 ≤ a ∧ a < S
    · rw [if_pos q1, if_pos q1, Option.bind_some, dS_r, show fX11_needRange m (Int32.ofInt c) 1 64 = _ from fX11_needRange_ok m (b := 1) (c := 64) c1 c2 (by omega) (by omega) (by omega) (by omega)]
      by_cases q2 : 1 ≤ c ∧ c ≤ 64
      · rw [if_pos q2, if_pos q2, Option.bind_some, dS_r, show fX11_needRange m (Int32.ofInt t) 60 240 = _ from fX11_needRange_ok m (b := 60) (c := 240) t1 t2 (by omega) (by omega) (by omega) (by omega)]
        by_cases q3 : 60 ≤ t ∧ t ≤ 240
        · rw [if_pos q3, if_pos q3, Option.bind_some, dS_r, fX8_numbered_ok (by omega), Option.bind_some, dg_ok (kPart (by omega)), fX5_tell_ok (by omega), Option.bind_some]
          unfold fX1_number
          rw [dg_ok kDots, zd1_ne (by omega), zd1_ne (by omega), zd1_ne (by omega), zd1_ne (by omega), h1.1, Option.bind_some]
        · rw [if_neg q3, if_neg q3]; rfl
      · rw [if_neg q2, if_neg q2]; rfl
    · rw [if_neg q1, if_neg q1]; rfl
  · rw [if_neg q0, if_neg q0]; rfl
theorem K_change {N S P pp : Nat} {le kn : Nat → Int} {il io : Nat → Bool} {sx sy : Nat → Nat → Int} {so : Nat → Nat} {co te : Nat → Int} {lt : Nat → Bool} {go : Nat → Nat → Nat} {px py : Nat → Nat → Int} {lo hi : Int} {cap : Nat → Nat → Int} {pen : Nat → Int} {m : dM} (K : zK N S P pp le kn il io sx sy so co te lt go px py lo hi cap pen m) (l : Bool) {b a c t : Int} (hb : 0 ≤ b ∧ b < P) (ha : 0 ≤ a ∧ a < S) (hc : 1 ≤ c ∧ c ≤ 64) (ht : 60 ≤ t ∧ t ≤ 240) : ∃ (m' : dM) (go' : Nat → Nat → Nat), fX11_change m 0 (Int32.ofInt b) (Int32.ofInt a) (Int32.ofInt c) (Int32.ofInt t) (zB l) = some (.inr m') ∧ zK N S P pp le kn il io sx sy (zUp so b.toNat a.toNat) (zUp co b.toNat c) (zUp te b.toNat t) (zUp lt b.toNat l) go' px py lo hi cap pen m' := by
  have hS := K.2.2.1.1
  have hP := K.2.2.2.2.1.1
  have X1 := fX11_change_ok K l (b := b) (a := a) (c := c) (t := t) (by omega) (by omega) (by omega) (by omega) (by omega) (by omega) (by omega) (by omega)
  rw [if_pos hb, if_pos ha, if_pos hc, if_pos ht] at X1
  obtain ⟨h0, h1, h2, h3, h5, h6, h8, h9, h11, h12⟩ := K
  obtain ⟨s, rfl⟩ := zi_nat ha.1
  obtain ⟨k, rfl⟩ := zi_nat hb.1
  rw [Int.toNat_natCast] at X1
  rw [Int.toNat_natCast, Int.toNat_natCast]
  obtain ⟨M, go', e, w1, w2, w3, w4⟩ := zTell (m := m) (P := P) (k := k) (s := s) (l := l) (so := so) (co := co) (te := te) (lt := lt) (go := go) h0.1 h0.2.1 h2 h3 hP (by omega) h6.1 (by omega) hc ht (fun i hi hne => by
    obtain ⟨c1, c2, c3, c4, c5⟩ := h6.2 i hi
    obtain ⟨r1, r2, r3, r4, r5, r6, r7⟩ := h5.2 i hi
    exact ⟨⟨r1, r2, r3, r4, r5⟩, c1, c2, c3, c4⟩) (fun i hi => by
    obtain ⟨c1, c2, c3, c4, c5⟩ := h6.2 i (by omega)
    obtain ⟨r1, r2, r3, r4, r5, r6, r7⟩ := h5.2 i (by omega)
    exact ⟨r6, r7, fun d hd => c5 d hd⟩)
  have fM : ∀ a, a < 47 ∨ 171 ≤ a → M.1 a = m.1 a := fun a ha => w1 a (by omega)
  exact ⟨M, go', by rw [X1, e, Option.bind_some], h0, h1.to (fun a q1 q2 => fM a (by omega)), h2, h3.to hS (fun a q1 q2 => fM a (by omega)), w3, w4, h8, h9.to h8.1 (fun a q1 q2 => fM a (by omega)), h11, h12.to (fun a q1 q2 => fM a (by omega))⟩
theorem K_cut {N S P pp : Nat} {le kn : Nat → Int} {il io : Nat → Bool} {sx sy : Nat → Nat → Int} {so : Nat → Nat} {co te : Nat → Int} {lt : Nat → Bool} {go : Nat → Nat → Nat} {px py : Nat → Nat → Int} {lo hi : Int} {cap : Nat → Nat → Int} {pen : Nat → Int} {m : dM} {P' : Nat} (K : zK N S (P' + 1) pp le kn il io sx sy so co te lt go px py lo hi cap pen m) : ∃ m', fX11_cut m 0 = some (.inr (Int32.ofInt (P' : Int), m')) ∧ zK N S P' pp le kn il io sx sy so co te lt go px py lo hi cap pen m' := by
  obtain ⟨h0, h1, h2, h3, h5, h6, h8, h9, h11, h12⟩ := K
  have hP := h5.1
  refine ⟨d1 m 47 3 (Int32.ofInt P'), fX11_cut_ok h5 h6, h0, h1.to (fun a q1 q2 => by simp (disch := omega) only [zd1_ne, zd1_nk, zd2_1]), h2, h3.to h2.1 (fun a q1 q2 => by simp (disch := omega) only [zd1_ne, zd1_nk, zd2_1]), ⟨by omega, fun i hi => h5.2 i (by omega)⟩, ⟨by simp [d1], fun i hi => ?_⟩, h8, h9.to h8.1 (fun a q1 q2 => by simp (disch := omega) only [zd1_ne, zd1_nk, zd2_1]), h11, h12.to (fun a q1 q2 => by simp (disch := omega) only [zd1_ne, zd1_nk, zd2_1])⟩
  have q := h6.2 i (by omega)
  simp (disch := omega) only [zd1_ne, zd1_nk, zd2_1]
  exact q
theorem K_clock {N S P pp : Nat} {le kn : Nat → Int} {il io : Nat → Bool} {sx sy : Nat → Nat → Int} {so : Nat → Nat} {co te : Nat → Int} {lt : Nat → Bool} {go : Nat → Nat → Nat} {px py : Nat → Nat → Int} {lo hi : Int} {cap : Nat → Nat → Int} {pen : Nat → Int} {m : dM} (K : zK N S P pp le kn il io sx sy so co te lt go px py lo hi cap pen m) {a b : Int} (h : 0 ≤ a ∧ a ≤ b ∧ b ≤ 9999) : ∃ m', fX11_clock m 0 (Int32.ofInt a) (Int32.ofInt b) = some (.inr m') ∧ zK N S P pp le kn il io sx sy so co te lt go px py a b cap pen m' := by
  obtain ⟨h0, h1, h2, h3, h5, h6, h8, h9, h11, h12⟩ := K
  refine ⟨d1 (d1 m 435 2 (Int32.ofInt a)) 435 3 (Int32.ofInt b), by rw [fX11_clock_ok m (by omega) (by omega) (by omega) (by omega), if_pos h], h0, h1.to (fun a q1 q2 => by simp (disch := omega) only [zd1_ne, zd1_nk, zd2_1]), h2, h3.to h2.1 (fun a q1 q2 => by simp (disch := omega) only [zd1_ne, zd1_nk, zd2_1]), h5, h6.to h5.1 (fun a q1 q2 => by simp (disch := omega) only [zd1_ne, zd1_nk, zd2_1]), h8, h9.to h8.1 (fun a q1 q2 => by simp (disch := omega) only [zd1_ne, zd1_nk, zd2_1]), ⟨h.1, h.2.1, h.2.2, h11.2.2.2⟩, ⟨by simp [d1], by simp [d1], fun b hb => ?_⟩⟩
  have := h12.2.2 b hb; simp (disch := omega) only [zd1_ne, zd1_nk, zd2_1]; exact this
theorem K_judge {N S P pp : Nat} {le kn : Nat → Int} {il io : Nat → Bool} {sx sy : Nat → Nat → Int} {so : Nat → Nat} {co te : Nat → Int} {lt : Nat → Bool} {go : Nat → Nat → Nat} {px py : Nat → Nat → Int} {lo hi : Int} {cap : Nat → Nat → Int} {pen : Nat → Int} {m : dM} (K : zK N S P pp le kn il io sx sy so co te lt go px py lo hi cap pen m) {a c v : Int} (ha : 0 ≤ a ∧ a < 6) (hc : 0 ≤ c ∧ c < 4) (hv : 0 ≤ v ∧ v ≤ 1000) : ∃ m', fX11_judge m 0 (Int32.ofInt a) (Int32.ofInt c) (Int32.ofInt v) = some (.inr (Int32.ofInt (zPts lo hi (zCap cap a.toNat c.toNat v) pen (zTime co te P) a.toNat), m')) ∧ zK N S P pp le kn il io sx sy so co te lt go px py lo hi (zCap cap a.toNat c.toNat v) pen m' := by
  obtain ⟨h0, h1, h2, h3, h5, h6, h8, h9, h11, h12⟩ := K
  have X := fX11_judge_ok h5 h6 h11 h12 (a := a) (c := c) (v := v) (by omega) (by omega) (by omega) (by omega) (by omega) (by omega)
  rw [if_pos ⟨ha, hc⟩, if_pos hv] at X
  obtain ⟨b, rfl⟩ := zi_nat ha.1
  obtain ⟨d, rfl⟩ := zi_nat hc.1
  rw [Int.toNat_natCast, Int.toNat_natCast] at X ⊢
  exact ⟨_, X, h0, h1.to (fun a q1 q2 => by simp (disch := omega) only [zd1_ne, zd1_nk, zd2_1]), h2, h3.to h2.1 (fun a q1 q2 => by simp (disch := omega) only [zd1_ne, zd1_nk, zd2_1]), h5, h6.to h5.1 (fun a q1 q2 => by simp (disch := omega) only [zd1_ne, zd1_nk, zd2_1]), h8, h9.to h8.1 (fun a q1 q2 => by simp (disch := omega) only [zd1_ne, zd1_nk, zd2_1]), h11.cap b d hv.1 hv.2, h12.cap (by omega)⟩
theorem K_penalty {N S P pp : Nat} {le kn : Nat → Int} {il io : Nat → Bool} {sx sy : Nat → Nat → Int} {so : Nat → Nat} {co te : Nat → Int} {lt : Nat → Bool} {go : Nat → Nat → Nat} {px py : Nat → Nat → Int} {lo hi : Int} {cap : Nat → Nat → Int} {pen : Nat → Int} {m : dM} (K : zK N S P pp le kn il io sx sy so co te lt go px py lo hi cap pen m) {a v : Int} (ha : 0 ≤ a ∧ a < 6) (hv : 0 ≤ v ∧ v ≤ 1000) : ∃ m', fX11_penalty m 0 (Int32.ofInt a) (Int32.ofInt v) = some (.inr (Int32.ofInt (zPts lo hi cap (zUp pen a.toNat v) (zTime co te P) a.toNat), m')) ∧ zK N S P pp le kn il io sx sy so co te lt go px py lo hi cap (zUp pen a.toNat v) m' := by
  obtain ⟨h0, h1, h2, h3, h5, h6, h8, h9, h11, h12⟩ := K
  have X := fX11_penalty_ok h5 h6 h11 h12 (a := a) (v := v) (by omega) (by omega) (by omega) (by omega)
  rw [if_pos ha, if_pos hv] at X
  obtain ⟨b, rfl⟩ := zi_nat ha.1
  rw [Int.toNat_natCast] at X ⊢
  exact ⟨_, X, h0, h1.to (fun a q1 q2 => by simp (disch := omega) only [zd1_ne, zd1_nk, zd2_1]), h2, h3.to h2.1 (fun a q1 q2 => by simp (disch := omega) only [zd1_ne, zd1_nk, zd2_1]), h5, h6.to h5.1 (fun a q1 q2 => by simp (disch := omega) only [zd1_ne, zd1_nk, zd2_1]), h8, h9.to h8.1 (fun a q1 q2 => by simp (disch := omega) only [zd1_ne, zd1_nk, zd2_1]), h11.pen b hv.1 hv.2, h12.pen⟩
theorem K_publish {N S P pp : Nat} {le kn : Nat → Int} {il io : Nat → Bool} {sx sy : Nat → Nat → Int} {so : Nat → Nat} {co te : Nat → Int} {lt : Nat → Bool} {go : Nat → Nat → Nat} {px py : Nat → Nat → Int} {lo hi : Int} {cap : Nat → Nat → Int} {pen : Nat → Int} {m : dM} (K : zK N S P pp le kn il io sx sy so co te lt go px py lo hi cap pen m) : ∃ m', fX11_publish m 0 = some (Int32.ofInt (zAllCh N P pp (zX sx so go) (zX sy so go) px py 10 12), m') ∧ zK N S P P le kn il io sx sy so co te lt go (zX sx so go) (zX sy so go) lo hi cap pen m' := by
  obtain ⟨h0, h1, h2, h3, h5, h6, h8, h9, h11, h12⟩ := K
  obtain ⟨M, k1, k2, k3, k4, k5⟩ := fX3_keep_ok h5 h6
  have X : fX11_publish m 0 = some (Int32.ofInt (zAllCh N P pp (zX sx so go) (zX sy so go) px py 10 12), M) := by
    unfold fX11_publish fX1_number
    rw [dg_ok kF, dg_ok kDots, h1.1, Option.bind_some, fX3_countUnlike_ok (il := il) (io := io) h0 h2 h5 h6 h8 h9, Option.bind_some, k1, Option.bind_some]
  have hP := h5.1
  have hN := h0.2.1
  refine ⟨M, X, h0, h1.to (fun a q1 q2 => k3 a (by omega)), h2, h3.to h2.1 (fun a q1 q2 => k3 a (by omega)), h5, h6.to h5.1 (fun a q1 q2 => k3 a (by omega)), ⟨hP, fun q => by have := (h5.2 0 q).1; omega, fun i hi d hd => ?_⟩, ⟨k4, fun i hi d hd => ?_⟩, h11, h12.to (fun a q1 q2 => k3 a (by omega))⟩
  · obtain ⟨b1, b2⟩ := zX_in h2 h5 hi hd
    exact ⟨b1.1, b1.2, b2.1, b2.2⟩
  · obtain ⟨y1, y2⟩ := k5 i hi d (by omega)
    rw [y1, y2]
    have c5 := (h6.2 i hi).2.2.2.2 d hd
    exact ⟨c5.2.1, c5.2.2.1⟩
theorem K_changed {N S P pp : Nat} {le kn : Nat → Int} {il io : Nat → Bool} {sx sy : Nat → Nat → Int} {so : Nat → Nat} {co te : Nat → Int} {lt : Nat → Bool} {go : Nat → Nat → Nat} {px py : Nat → Nat → Int} {lo hi : Int} {cap : Nat → Nat → Int} {pen : Nat → Int} {m : dM} (K : zK N S P pp le kn il io sx sy so co te lt go px py lo hi cap pen m) : fX11_changed m 0 = some (Int32.ofInt (zAllCh N P pp (zX sx so go) (zX sy so go) px py 10 12)) := by
  obtain ⟨h0, h1, h2, h3, h5, h6, h8, h9, h11, h12⟩ := K
  unfold fX11_changed fX1_number
  rw [dg_ok kF, dg_ok kDots, h1.1, Option.bind_some, fX3_countUnlike_ok (il := il) (io := io) h0 h2 h5 h6 h8 h9, Option.bind_some]
theorem K_lasts {N S P pp : Nat} {le kn : Nat → Int} {il io : Nat → Bool} {sx sy : Nat → Nat → Int} {so : Nat → Nat} {co te : Nat → Int} {lt : Nat → Bool} {go : Nat → Nat → Nat} {px py : Nat → Nat → Int} {lo hi : Int} {cap : Nat → Nat → Int} {pen : Nat → Int} {m : dM} (K : zK N S P pp le kn il io sx sy so co te lt go px py lo hi cap pen m) : fX11_lasts m 0 = some (Int32.ofInt (zTime co te P)) := fX11_lasts_ok K.2.2.2.2.1 K.2.2.2.2.2.1
theorem K_agrees {N S P pp : Nat} {le kn : Nat → Int} {il io : Nat → Bool} {sx sy : Nat → Nat → Int} {so : Nat → Nat} {co te : Nat → Int} {lt : Nat → Bool} {go : Nat → Nat → Nat} {px py : Nat → Nat → Int} {lo hi : Int} {cap : Nat → Nat → Int} {pen : Nat → Int} {m : dM} (K : zK N S P pp le kn il io sx sy so co te lt go px py lo hi cap pen m) : ∃ m', fX11_agrees m 0 = some (1, m') ∧ zK N S P pp le kn il io sx sy so co te lt go px py lo hi cap pen m' := by
  obtain ⟨M, e1, e2, e3⟩ := fX11_agrees_ok K.1 K.2.1 K.2.2.1 K.2.2.2.2.1 K.2.2.2.2.2.1
  exact ⟨M, e1, K.to (fun a h => e3 a (by omega))⟩
theorem K_ranked {N S P pp : Nat} {le kn : Nat → Int} {il io : Nat → Bool} {sx sy : Nat → Nat → Int} {so : Nat → Nat} {co te : Nat → Int} {lt : Nat → Bool} {go : Nat → Nat → Nat} {px py : Nat → Nat → Int} {lo hi : Int} {cap : Nat → Nat → Int} {pen : Nat → Int} {m : dM} (K : zK N S P pp le kn il io sx sy so co te lt go px py lo hi cap pen m) {r : Nat} (hr : r < 6) : ∃ v, v < 6 ∧ zRank (zAhead cap (zPts lo hi cap pen (zTime co te P))) v 6 = r ∧ (∀ k, k < 6 → zRank (zAhead cap (zPts lo hi cap pen (zTime co te P))) k 6 = r → k = v) ∧ fX11_ranked m 0 (Int32.ofInt (r : Int)) = some (.inr (Int32.ofInt (v : Int), m)) := by
  obtain ⟨h0, h1, h2, h3, h5, h6, h8, h9, h11, h12⟩ := K
  have hT := zT_in h5
  obtain ⟨v, hv, e1, e2⟩ := zRank_ex (cap := cap) (s := zPts lo hi cap pen (zTime co te P)) hr
  have nr := fX11_needRange_ok m (a := (r : Int)) (b := 0) (c := 5) (by omega) (by omega) (by omega) (by omega) (by omega) (by omega)
  rw [if_pos (show (0 : Int) ≤ r ∧ (r : Int) ≤ 5 by omega)] at nr
  refine ⟨v, hv, e1, e2, ?_⟩
  unfold fX11_ranked
  rw [dg_ok kF, show fX11_needRange m (Int32.ofInt r) 0 5 = _ from nr, Option.bind_some]
  show (fX8_tenthsOfSeconds m 47).bind _ = _
  rw [fX8_tenthsOfSeconds_ok h5 h6, Option.bind_some, fX0_bandAt_ok h11 h12 hT.1 hT.2 hr hv e1 e2, Option.bind_some]
/-- the band at a rank, by what the rank says -/
theorem K_rankedv {N S P pp : Nat} {le kn : Nat → Int} {il io : Nat → Bool} {sx sy : Nat → Nat → Int} {so : Nat → Nat} {co te : Nat → Int} {lt : Nat → Bool} {go : Nat → Nat → Nat} {px py : Nat → Nat → Int} {lo hi : Int} {cap : Nat → Nat → Int} {pen : Nat → Int} {m : dM} (K : zK N S P pp le kn il io sx sy so co te lt go px py lo hi cap pen m) {r v : Nat} (hr : r < 6) (hv : v < 6) (he : zRank (zAhead cap (zPts lo hi cap pen (zTime co te P))) v 6 = r) : fX11_ranked m 0 (Int32.ofInt (r : Int)) = some (.inr (Int32.ofInt (v : Int), m)) := by
  obtain ⟨w, hw, e1, e2, e3⟩ := K_ranked K hr
  rw [e3, e2 v hv he]
theorem K_ranked_no {N S P pp : Nat} {le kn : Nat → Int} {il io : Nat → Bool} {sx sy : Nat → Nat → Int} {so : Nat → Nat} {co te : Nat → Int} {lt : Nat → Bool} {go : Nat → Nat → Nat} {px py : Nat → Nat → Int} {lo hi : Int} {cap : Nat → Nat → Int} {pen : Nat → Int} {m : dM} (K : zK N S P pp le kn il io sx sy so co te lt go px py lo hi cap pen m) {a : Int} (a1 : -2147483648 ≤ a) (a2 : a < 2147483648) (q : ¬ (0 ≤ a ∧ a < 6)) : fX11_ranked m 0 (Int32.ofInt a) = some (.inl (1, m)) := by
  have nr := fX11_needRange_ok m (a := a) (b := 0) (c := 5) a1 a2 (by omega) (by omega) (by omega) (by omega)
  rw [if_neg (show ¬ (0 ≤ a ∧ a ≤ 5) by omega)] at nr
  unfold fX11_ranked
  rw [dg_ok kF, show fX11_needRange m (Int32.ofInt a) 0 5 = _ from nr, Option.bind_some]
  rfl
theorem K_fault_no {N S P pp : Nat} {le kn : Nat → Int} {il io : Nat → Bool} {sx sy : Nat → Nat → Int} {so : Nat → Nat} {co te : Nat → Int} {lt : Nat → Bool} {go : Nat → Nat → Nat} {px py : Nat → Nat → Int} {lo hi : Int} {cap : Nat → Nat → Int} {pen : Nat → Int} {m : dM} (K : zK N S P pp le kn il io sx sy so co te lt go px py lo hi cap pen m) {a b : Int} (a1 : -2147483648 ≤ a) (a2 : a < 2147483648) (b1 : -2147483648 ≤ b) (b2 : b < 2147483648) : (¬ (0 ≤ a ∧ a < P) → fX11_fault m 0 (Int32.ofInt a) (Int32.ofInt b) = some (.inl (3, m))) ∧ ((0 ≤ a ∧ a < P) → ¬ (0 ≤ b ∧ b ≤ 3) → fX11_fault m 0 (Int32.ofInt a) (Int32.ofInt b) = some (.inl (1, m))) := by
  obtain ⟨h0, h1, h2, h3, h5, h6, h8, h9, h11, h12⟩ := K
  unfold fX11_fault
  rw [dg_ok kF, fX11_needPart_ok h5 h6 a1 a2]
  constructor
  · intro q
    rw [if_neg q]; rfl
  · intro q q2
    rw [if_pos q, Option.bind_some, dS_r, show fX11_needRange m (Int32.ofInt b) 0 3 = _ from fX11_needRange_ok m (b := 0) (c := 3) b1 b2 (by omega) (by omega) (by omega) (by omega), if_neg q2]
    rfl
/-- the fault of a part -/
theorem K_fault {N S P pp : Nat} {le kn : Nat → Int} {il io : Nat → Bool} {sx sy : Nat → Nat → Int} {so : Nat → Nat} {co te : Nat → Int} {lt : Nat → Bool} {go : Nat → Nat → Nat} {px py : Nat → Nat → Int} {lo hi : Int} {cap : Nat → Nat → Int} {pen : Nat → Int} {m : dM} (K : zK N S P pp le kn il io sx sy so co te lt go px py lo hi cap pen m) {k n : Nat} (hk : k < P) (hn : co k = n) : ∃ qq, zFirst (zFlt N (zMar kn il io) (zMo le (te k)) (zXc (zX sx so go) co k) (zXc (zX sy so go) co k)) n qq ∧ ∀ w : Nat, w < 4 → ∃ m', fX11_fault m 0 (Int32.ofInt (k : Int)) (Int32.ofInt (w : Int)) = some (.inr (Int32.ofInt (zQ qq w), m')) ∧ zK N S P pp le kn il io sx sy so co te lt go px py lo hi cap pen m' := by
  have K0 := K
  obtain ⟨h0, h1, h2, h3, h5, h6, h8, h9, h11, h12⟩ := K
  have hP := h5.1
  obtain ⟨M, qq, e1, e2, e3, e4, e5⟩ := fX10_look_ok h0 h1 h2 h5 h6 hk hn
  refine ⟨qq, e2, fun w hw => ⟨M, ?_, K0.to (fun a h => e4 a (by omega))⟩⟩
  have said : fX2_said M 371 (Int32.ofInt (w : Int)) = some (Int32.ofInt (zQ qq w)) := by
    unfold fX2_said
    rw [dg_ok kFau]
    rcases (show w = 0 ∨ w = 1 ∨ w = 2 ∨ w = 3 by omega) with rfl | rfl | rfl | rfl
    · rw [if_pos (by decide), e5 0 (by decide)]
    · rw [if_neg (by decide), if_pos (by decide), e5 1 (by decide)]
    · rw [if_neg (by decide), if_neg (by decide), if_pos (by decide), e5 2 (by decide)]
    · rw [if_neg (by decide), if_neg (by decide), if_neg (by decide), e5 3 (by decide)]
  unfold fX11_fault
  rw [dg_ok kF, fX11_needPart_ok h5 h6 (by omega) (by omega), if_pos (by omega), Option.bind_some, dS_r, show fX11_needRange m (Int32.ofInt (w : Int)) 0 3 = _ from fX11_needRange_ok m (b := 0) (c := 3) (by omega) (by omega) (by omega) (by omega) (by omega) (by omega), if_pos (by omega), Option.bind_some, dS_r, fX8_numbered_ok (by omega), Option.bind_some, dg_ok (kPart (by omega)), e1, Option.bind_some]
  show dg _ _ = _
  rw [dg_ok kFau, said, Option.bind_some]
theorem K_phase {N S P pp : Nat} {le kn : Nat → Int} {il io : Nat → Bool} {sx sy : Nat → Nat → Int} {so : Nat → Nat} {co te : Nat → Int} {lt : Nat → Bool} {go : Nat → Nat → Nat} {px py : Nat → Nat → Int} {lo hi : Int} {cap : Nat → Nat → Int} {pen : Nat → Int} {m : dM} (K : zK N S P pp le kn il io sx sy so co te lt go px py lo hi cap pen m) {a c x y : Int} (ha : 0 ≤ a ∧ a < P) (hc : 0 ≤ c ∧ c ≤ co a.toNat) (hx : 0 ≤ x ∧ x ≤ 1600) (hy : -1000 ≤ y ∧ y ≤ -1) : ∃ m', fX11_phase m 0 (Int32.ofInt a) (Int32.ofInt c) (Int32.ofInt x) (Int32.ofInt y) = some (.inr (Int32.ofInt (zPhase kn il io (zSt (zX sx so go) co a.toNat c) (zSt (zX sy so go) co a.toNat c) x y N), m')) ∧ zK N S P pp le kn il io sx sy so co te lt go px py lo hi cap pen m' := by
  have hP := K.2.2.2.2.1.1
  have r := K.2.2.2.2.1.2 a.toNat (by omega)
  exact ⟨_, by rw [fX11_phase_ok K.1 K.2.1 K.2.2.1 K.2.2.2.2.1 K.2.2.2.2.2.1 (by omega) (by omega) (by omega) (by omega) (by omega) (by omega) (by omega) (by omega), if_pos ha, if_pos ⟨hc, hx, hy⟩], K.to (fun a h => zW2_ne (by omega) (by omega))⟩
/-- who goes where may be told otherwise, where nobody looks -/
theorem zBest_w {N : Nat} {w w' : Nat → Nat → Int} {g : Nat → Nat} (h : zBest N w g) (e : ∀ d p, d < N → p < N → w d p = w' d p) : zBest N w' g := by
  have c : ∀ h, zInj N h → zCost N w h = zCost N w' h := fun h hh => zSum_congr N (fun d hd => by rw [e d (h d) hd (hh.1 d hd)])
  refine ⟨h.1, fun h' hh => ?_⟩
  rw [← c g h.1, ← c h' hh]
  exact h.2 h' hh
theorem zInj_c {N : Nat} {g g' : Nat → Nat} (h : zInj N g) (e : ∀ d, d < N → g d = g' d) : zInj N g' := ⟨fun d hd => by rw [← e d hd]; exact h.1 d hd, fun a b ha hb q => h.2 a b ha hb (by rw [e a ha, e b hb]; exact q)⟩
theorem zBest_g {N : Nat} {w : Nat → Nat → Int} {g g' : Nat → Nat} (h : zBest N w g) (e : ∀ d, d < N → g d = g' d) : zBest N w g' := by
  have c : zCost N w g = zCost N w g' := zSum_congr N (fun d hd => by rw [e d hd])
  refine ⟨zInj_c h.1 e, fun h' hh => ?_⟩
  rw [← c]
  rcases h.2 h' hh with q | q
  · exact Or.inl (fun d hd => by rw [q d hd, e d hd])
  · exact Or.inr q
theorem K_go {N S P pp : Nat} {le kn : Nat → Int} {il io : Nat → Bool} {sx sy : Nat → Nat → Int} {so : Nat → Nat} {co te : Nat → Int} {lt : Nat → Bool} {go : Nat → Nat → Nat} {px py : Nat → Nat → Int} {lo hi : Int} {cap : Nat → Nat → Int} {pen : Nat → Int} {m : dM} (K : zK N S P pp le kn il io sx sy so co te lt go px py lo hi cap pen m) {go2 : Nat → Nat → Nat} (e : ∀ i, i < P → ∀ d, d < N → go i d = go2 i d) : zK N S P pp le kn il io sx sy so co te lt go2 px py lo hi cap pen m := by
  obtain ⟨h0, h1, h2, h3, h5, h6, h8, h9, h11, h12⟩ := K
  have hX : ∀ (s : Nat → Nat → Int) i d, i < P → d < N → zX s so go i d = zX s so go2 i d := fun s i d hi hd => by unfold zX; rw [e i hi d hd]
  have hX' : ∀ (s : Nat → Nat → Int) i d, i < P → d < N → zX s so go (i - 1) d = zX s so go2 (i - 1) d := fun s i d hi hd => hX s (i - 1) d (by omega) hd
  refine ⟨h0, h1, h2, h3, ⟨h5.1, fun i hi => ?_⟩, ⟨h6.1, fun i hi => ?_⟩, h8, h9, h11, h12⟩
  · obtain ⟨r1, r2, r3, r4, r5, r6, r7⟩ := h5.2 i hi
    refine ⟨r1, r2, r3, r4, r5, ?_, fun d hd => by rw [← e i hi d hd]; exact r7 d hd⟩
    unfold zGo at r6 ⊢
    by_cases c : 0 < i ∧ lt i = true
    · rw [if_pos c] at r6 ⊢
      refine zBest_g (zBest_w r6 (fun d p hd hp => ?_)) (e i hi)
      unfold zW
      rw [hX' sx i d hi hd, hX' sy i d hi hd]
    · rw [if_neg c] at r6 ⊢
      exact fun d hd => by rw [← e i hi d hd]; exact r6 d hd
  · obtain ⟨c1, c2, c3, c4, c5⟩ := h6.2 i hi
    refine ⟨c1, c2, c3, c4, fun d hd => ?_⟩
    obtain ⟨d1', d2', d3', d4', d5'⟩ := c5 d hd
    rw [← e i hi d hd, ← hX sx i d hi hd, ← hX sy i d hi hd, ← hX' sx i d hi hd, ← hX' sy i d hi hd]
    exact ⟨d1', d2', d3', d4', d5'⟩
theorem K_dI : zK 4 0 0 0 (fun _ => 14) (fun _ => -1) (fun _ => false) (fun _ => false) (fun _ _ => 0) (fun _ _ => 0) (fun _ => 0) (fun _ => 0) (fun _ => 0) (fun _ => false) (fun _ _ => 0) (fun _ _ => 0) (fun _ _ => 0) 0 9999 (fun _ _ => 0) (fun _ => 0) dI := by
  have at0 : ∀ i, dI.1 i = dI1 i := fun i => rfl
  refine ⟨⟨by omega, by omega, fun _ _ => ⟨show (5 : Int) ≤ 14 by decide, show (14 : Int) ≤ 40 by decide⟩, fun _ _ => ⟨show (-1 : Int) ≤ -1 by decide, show (-1 : Int) < 10 by decide⟩⟩, ⟨by decide +kernel, by decide +kernel, by decide +kernel⟩, ⟨by omega, fun s hs => absurd hs (by omega)⟩, ⟨by decide +kernel, fun s hs => absurd hs (by omega)⟩, ⟨by omega, fun s hs => absurd hs (by omega)⟩, ⟨by decide +kernel, fun s hs => absurd hs (by omega)⟩, ⟨by omega, fun q => absurd q (by omega), fun s hs => absurd hs (by omega)⟩, ⟨by decide +kernel, fun s hs => absurd hs (by omega)⟩, ⟨by omega, by omega, by omega, fun b hb => ⟨show (0 : Int) ≤ 0 by decide, show (0 : Int) ≤ 1000 by decide, fun c hc => ⟨show (0 : Int) ≤ 0 by decide, show (0 : Int) ≤ 1000 by decide⟩⟩⟩, ⟨by decide +kernel, by decide +kernel, by decide +kernel⟩⟩
