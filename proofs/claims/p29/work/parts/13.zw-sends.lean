theorem zWt_in {N : Nat} {w : Nat → Nat → Int} (hN : N ≤ 10) (hw : zWb N w) : ∀ d p, d < N → p < N → 0 ≤ zWt N w d p ∧ zWt N w d p ≤ 60000000000000000 := fun d p hd hp => by
  have b := hw d p hd hp
  have t : (0 : Int) < 10 ^ (N - 1 - d) ∧ (10 : Int) ^ (N - 1 - d) ≤ 1000000000 := by
    have : ∀ k : Fin 10, (0 : Int) < 10 ^ k.val ∧ (10 : Int) ^ k.val ≤ 1000000000 := by decide
    exact this ⟨N - 1 - d, by omega⟩
  have m1 := Int.mul_nonneg (Int.le_of_lt t.1) (show (0 : Int) ≤ (p : Int) by omega)
  have m2 := Int.mul_le_mul_of_nonneg_right t.2 (show (0 : Int) ≤ (p : Int) by omega)
  unfold zWt
  omega
theorem fX4_weigh_ok {m : dM} {N st gl : Nat} {ax ay bx by' : Nat → Int} {w : Nat → Nat → Int} (hN : N ≤ 10) (h7 : m.1 153 7 = Int32.ofInt (N : Int)) (hst : zSp st) (hgl : zSp gl) (ha : ∀ d, d < N → m.1 (st + 1) d = Int32.ofInt (ax d) ∧ m.1 (st + 2) d = Int32.ofInt (ay d)) (hb : ∀ p, p < N → m.1 (gl + 1) p = Int32.ofInt (bx p) ∧ m.1 (gl + 2) p = Int32.ofInt (by' p)) (hw : ∀ d p, w d p = zSq (bx p) (by' p) (ax d) (ay d)) (hwb : zWb N w) : ∃ M, fX4_weigh m 153 st gl = some M ∧ M.1 = m.1 ∧ (∀ a, a < 155 ∨ 165 ≤ a → M.2 a = m.2 a) ∧ ∀ d p, d < N → p < N → M.2 (154 + 1 + d) p = Int64.ofInt (zWt N w d p) := by
  unfold fX4_weigh
  rw [dg_ok kPair, dg_ok hst.1, dg_ok hgl.1, h7, show Int32.ofInt (N : Int) - 1 = Int32.ofInt ((N : Int) - 1) by rw [show (1 : Int32) = Int32.ofInt 1 from rfl, zi_sub], dlet_v]
  obtain ⟨R, e, w1, w2, w3⟩ := dlp_inv (f := fun q => dP3 q (fun v3 v4 m5 => fX4_weigh_l10 153 st gl v3 v4 m5)) (Q := fun (r : dM) => r.1 = m.1 ∧ (∀ a, a < 155 ∨ 165 ≤ a → r.2 a = m.2 a) ∧ ∀ d p, d < N → p < N → r.2 (154 + 1 + d) p = Int64.ofInt (zWt N w d p)) (fun k s => s.1 = Int32.ofInt ((N : Int) - 1 - k) ∧ s.2.1 = Int64.ofInt (10 ^ k) ∧ s.2.2.1 = m.1 ∧ (∀ a, a < 155 ∨ 165 ≤ a → s.2.2.2 a = m.2 a) ∧ ∀ d p, N - k ≤ d → d < N → p < N → s.2.2.2 (154 + 1 + d) p = Int64.ofInt (zWt N w d p)) N
    (fun k s hk hs => by
      obtain ⟨x, y, Q⟩ := s
      obtain ⟨i1, i2, i3, i4, i5⟩ := hs
      have i1 : x = Int32.ofInt ((N : Int) - 1 - k) := i1
      have i2 : y = Int64.ofInt (10 ^ k) := i2
      have i3 : Q.1 = m.1 := i3
      have i4 : ∀ a, a < 155 ∨ 165 ≤ a → Q.2 a = m.2 a := i4
      have i5 : ∀ d p, N - k ≤ d → d < N → p < N → Q.2 (154 + 1 + d) p = Int64.ofInt (zWt N w d p) := i5
      have v2 : Int32.ofInt ((N : Int) - 1 - k - 1) = Int32.ofInt ((N : Int) - 1 - ((k + 1 : Nat) : Int)) := by congr 1; omega
      rw [show ((N : Int) - 1 - k) = ((N - (k + 1) : Nat) : Int) by omega] at i1 v2
      subst i1 i2
      generalize hdd : N - (k + 1) = d at *
      obtain ⟨r1, r2⟩ := kPairRow (show d < 10 by omega)
      obtain ⟨R, e, w1, w2, w3⟩ := dlp_inv (f := fun q => dP2 q (fun v23 m24 => fX4_weigh_l18 153 st gl (Int32.ofInt (d : Int)) (Int64.ofInt (10 ^ k)) v23 m24)) (Q := fun (r : dM) => r.1 = m.1 ∧ (∀ a, a ≠ 154 + 1 + d → r.2 a = Q.2 a) ∧ ∀ p, p < N → r.2 (154 + 1 + d) p = Int64.ofInt (zWt N w d p)) (fun j s => s.1 = Int32.ofInt (j : Int) ∧ s.2.1 = m.1 ∧ (∀ a, a ≠ 154 + 1 + d → s.2.2 a = Q.2 a) ∧ ∀ p, p < j → s.2.2 (154 + 1 + d) p = Int64.ofInt (zWt N w d p)) N
        (fun j s hj hs => by
          obtain ⟨x, T⟩ := s
          obtain ⟨j1, j2, j3, j4⟩ := hs
          have j1 : x = Int32.ofInt (j : Int) := j1
          have j2 : T.1 = m.1 := j2
          subst j1
          have bw := hwb d j (by omega) hj
          have val : (10000000000 : Int64) * (Int32.ofInt (w d j)).toInt64 + Int64.ofInt (10 ^ k) * (Int32.ofInt (j : Int)).toInt64 = Int64.ofInt (zWt N w d j) := by
            rw [zi_j (by omega) (by omega), zi_j (by omega) (by omega), show (10000000000 : Int64) = Int64.ofInt 10000000000 from rfl, zj_mul, zj_mul, zj_add]
            unfold zWt
            rw [show N - 1 - d = k by omega]
          refine Or.inl ⟨(Int32.ofInt ((j + 1 : Nat) : Int), d2 T (154 + 1 + d) j (Int64.ofInt (zWt N w d j))), ?_, rfl, j2, fun a a1 => by show (d2 T _ _ _).2 a = _; rw [zd2_ne a1]; exact j3 a a1, fun p hp => ?_⟩
          · show fX4_weigh_l18 153 st gl (Int32.ofInt (d : Int)) (Int64.ofInt (10 ^ k)) (Int32.ofInt (j : Int)) T = _
            unfold fX4_weigh_l18
            rw [j2, h7, if_neg (by rw [zi_le (by omega) (by omega) (by omega) (by omega)]; omega), kd154, dg_ok (dIx_nat (by omega) (by decide)), zi_cn (by omega), dg_ok r1, r2, zSqC hst hgl (by omega) (by omega) (by rw [j2]; exact (ha d (by omega)).1) (by rw [j2]; exact (ha d (by omega)).2) (by rw [j2]; exact (hb j hj).1) (by rw [j2]; exact (hb j hj).2), Option.bind_some, dg_ok (dIx_nat (by omega) (by decide)), zi_cn (by omega), zSq_sym, ← hw, val, dlet_v, dlet_v, zi_1]
            rfl
          · show (d2 T (154 + 1 + d) j _).2 (154 + 1 + d) p = _
            by_cases z : p = j
            · subst z; rw [zd2_at]
            · rw [zd2_nk z]; exact j4 p (by omega))
        (fun s hs => by
          obtain ⟨x, T⟩ := s
          obtain ⟨j1, j2, j3⟩ := hs
          have j1 : x = Int32.ofInt (N : Int) := j1
          have j2 : T.1 = m.1 := j2
          subst j1
          refine ⟨T, ?_, j2, j3⟩
          show fX4_weigh_l18 153 st gl (Int32.ofInt (d : Int)) (Int64.ofInt (10 ^ k)) (Int32.ofInt (N : Int)) T = _
          unfold fX4_weigh_l18
          rw [j2, h7, if_pos (Int32.le_refl _)]) N 0 dFl (0, Q) (by omega) (by show N < 100000; omega) ⟨rfl, i3, fun a _ => rfl, fun p hp => by omega⟩
      refine Or.inl ⟨(Int32.ofInt ((d : Int) - 1), Int64.ofInt (10 ^ (k + 1)), R), ?_, v2, rfl, w1, fun a ha => by show R.2 a = _; rw [w2 a (by omega)]; exact i4 a ha, fun c p c1 c2 hp => ?_⟩
      · show fX4_weigh_l10 153 st gl (Int32.ofInt (d : Int)) (Int64.ofInt (10 ^ k)) Q = _
        unfold fX4_weigh_l10
        rw [if_neg (by rw [show (0 : Int32) = Int32.ofInt 0 from rfl, zi_lt (by omega) (by omega) (by omega) (by omega)]; omega), e, Option.bind_some]
        show dlet _ _ = _
        rw [dlet_v, dlet_v, zi_m1, show (10 : Int64) = Int64.ofInt 10 from rfl, zj_mul, Int.pow_succ]; rfl
      · show R.2 _ p = _
        by_cases z : c = d
        · subst z; exact w3 p hp
        · rw [w2 _ (by omega)]; exact i5 c p (by omega) c2 hp)
    (fun s hs => by
      obtain ⟨x, y, Q⟩ := s
      obtain ⟨i1, i2, i3, i4, i5⟩ := hs
      have i1 : x = Int32.ofInt ((N : Int) - 1 - N) := i1
      rw [show (N : Int) - 1 - N = -1 by omega] at i1
      subst i1
      refine ⟨Q, ?_, i3, i4, fun d p hd hp => i5 d p (by omega) hd hp⟩
      show fX4_weigh_l10 153 st gl (Int32.ofInt (-1)) y Q = _
      unfold fX4_weigh_l10
      rw [if_pos (by decide)]) N 0 dFl (Int32.ofInt ((N : Int) - 1), 1, m) (by omega) (by show N < 100000; omega) ⟨by show Int32.ofInt _ = Int32.ofInt _; congr 1; omega, rfl, rfl, fun a _ => rfl, fun d p d1 d2 => by omega⟩
  exact ⟨R, by rw [e]; rfl, w1, w2, w3⟩
theorem fX5_send_ok {m : dM} {i d p gl : Nat} {bx by' : Int} (hi : i < 12) (hd : d < 10) (hp : p < 10) (hgl : zSp gl) (hg2 : gl + 2 < 44) (h1 : m.1 (gl + 1) p = Int32.ofInt bx) (h2 : m.1 (gl + 2) p = Int32.ofInt by') : fX5_send m (49 + 8 * i) (Int32.ofInt (d : Int)) (Int32.ofInt (p : Int)) gl = some (d1 (d1 (d1 m (49 + 8 * i + 7) d (Int32.ofInt (p : Int))) (49 + 8 * i + 4 + 1) d (Int32.ofInt bx)) (49 + 8 * i + 4 + 2) d (Int32.ofInt by')) := by
  obtain ⟨s1, s2, s3⟩ := kPst hi
  unfold fX5_send
  rw [dg_ok (kPart hi), dg_ok hgl.1, fX11_isInRow_nat m hd, Option.bind_some, if_neg z10, s3, dg_ok (dIx_nat hd (by decide)), zi_cn (by omega), dlet_v, fX9_x_ok hgl hp, Option.bind_some, fX9_y_ok hgl hp, Option.bind_some, zd1_ne (by omega), zd1_ne (by omega), h1, h2, fX9_put_ok s2 hd, Option.bind_some]
theorem fX4_send_ok {m : dM} {N i gl : Nat} {ax ay bx by' : Nat → Int} {w : Nat → Nat → Int} (hN2 : 2 ≤ N) (hN : N ≤ 10) (hi : i < 12) (hgl : zSp gl) (hg2 : gl + 2 < 44) (ha : ∀ d, d < N → m.1 (49 + 8 * i + 1 + 1) d = Int32.ofInt (ax d) ∧ m.1 (49 + 8 * i + 1 + 2) d = Int32.ofInt (ay d)) (hb : ∀ p, p < N → m.1 (gl + 1) p = Int32.ofInt (bx p) ∧ m.1 (gl + 2) p = Int32.ofInt (by' p)) (hw : ∀ d p, w d p = zSq (bx p) (by' p) (ax d) (ay d)) (hwb : zWb N w) : ∃ (M : dM) (g : Nat → Nat), fX4_send m 153 (49 + 8 * i) gl (Int32.ofInt (N : Int)) = some M ∧ zBest N w g ∧ (∀ a, a < 153 ∨ 171 ≤ a → a ≠ 49 + 8 * i + 7 → a ≠ 49 + 8 * i + 4 + 1 → a ≠ 49 + 8 * i + 4 + 2 → M.1 a = m.1 a) ∧ (∀ a, a < 153 ∨ 171 ≤ a → M.2 a = m.2 a) ∧ ∀ d, d < N → M.1 (49 + 8 * i + 7) d = Int32.ofInt ((g d : Nat) : Int) ∧ M.1 (49 + 8 * i + 4 + 1) d = Int32.ofInt (bx (g d)) ∧ M.1 (49 + 8 * i + 4 + 2) d = Int32.ofInt (by' (g d)) := by
  obtain ⟨s1, s2, s3⟩ := kPst hi
  unfold fX4_send fX5_starts
  rw [dg_ok kPair, dg_ok (kPart hi), dg_ok hgl.1, show (10 : Int32) = Int32.ofInt 10 from rfl, if_neg (by rw [zi_lt (by omega) (by omega) (by omega) (by omega)]; omega), dlet_v, dg_ok (kPart hi), Option.bind_some, dg_ok s1.1]
  have h7a : (d1 m 153 7 (Int32.ofInt (N : Int))).1 153 7 = Int32.ofInt (N : Int) := zd1_at
  obtain ⟨M1, e1, f1, f2, f3⟩ := fX4_weigh_ok (m := d1 m 153 7 (Int32.ofInt (N : Int))) hN h7a s1 hgl (fun d hd => by rw [zd1_ne (by omega), zd1_ne (by omega)]; exact ha d hd) (fun p hp => by rw [zd1_ne (by omega), zd1_ne (by omega)]; exact hb p hp) hw hwb
  rw [e1, Option.bind_some]
  have h7b : M1.1 153 7 = Int32.ofInt (N : Int) := by rw [f1]; exact h7a
  -- all prices at 0, no holders
  obtain ⟨M2, e2, w1, w2, w3, w4, w5⟩ := dlp_inv (f := fun q => dP2 q (fun v8 m9 => fX4_send_l22 153 v8 m9)) (Q := fun (r : dM) => (∀ a, a ≠ 169 → r.1 a = M1.1 a) ∧ (∀ a, a ≠ 165 → a ≠ 166 → r.2 a = M1.2 a) ∧ (∀ p, p < N → r.2 165 p = 0) ∧ (∀ p, p < N → r.2 166 p = 0) ∧ ∀ p, p < N → r.1 169 p = -1) (fun j s => s.1 = Int32.ofInt (j : Int) ∧ (∀ a, a ≠ 169 → s.2.1 a = M1.1 a) ∧ (∀ a, a ≠ 165 → a ≠ 166 → s.2.2 a = M1.2 a) ∧ (∀ p, p < j → s.2.2 165 p = 0) ∧ (∀ p, p < j → s.2.2 166 p = 0) ∧ ∀ p, p < j → s.2.1 169 p = -1) N
    (fun j s hj hs => by
      obtain ⟨x, Q⟩ := s
      obtain ⟨j1, j2, j3, j4, j5, j6⟩ := hs
      have j1 : x = Int32.ofInt (j : Int) := j1
      have j2 : ∀ a, a ≠ 169 → Q.1 a = M1.1 a := j2
      have j4 : ∀ p, p < j → Q.2 165 p = 0 := j4
      have j5 : ∀ p, p < j → Q.2 166 p = 0 := j5
      have j6 : ∀ p, p < j → Q.1 169 p = -1 := j6
      subst j1
      refine Or.inl ⟨(Int32.ofInt ((j + 1 : Nat) : Int), d1 (d2 (d2 Q 165 j 0) 166 j 0) 169 j (-1)), ?_, rfl, fun a a1 => by show (d1 _ _ _ _).1 a = _; rw [zd1_ne a1, zd2_1, zd2_1]; exact j2 a a1, fun a a1 a2 => by show (d2 (d2 Q _ _ _) _ _ _).2 a = _; rw [zd2_ne a2, zd2_ne a1]; exact j3 a a1 a2, fun p hp => ?_, fun p hp => ?_, fun p hp => ?_⟩
      · show fX4_send_l22 153 (Int32.ofInt (j : Int)) Q = _
        unfold fX4_send_l22
        rw [j2 153 (by decide), h7b, if_neg (by rw [zi_le (by omega) (by omega) (by omega) (by omega)]; omega), kd165, kd166, kd169, dg_ok (dIx_nat (by omega) (by decide)), zi_cn (by omega), dlet_v, dg_ok (dIx_nat (by omega) (by decide)), dlet_v, dg_ok (dIx_nat (by omega) (by decide)), dlet_v, dlet_v, zi_1]; rfl
      · show (d2 (d2 Q 165 j 0) 166 j 0).2 165 p = _
        rw [zd2_ne (by decide)]
        by_cases z : p = j
        · subst z; exact zd2_at
        · rw [zd2_nk z]; exact j4 p (by omega)
      · show (d2 (d2 Q 165 j 0) 166 j 0).2 166 p = _
        by_cases z : p = j
        · subst z; exact zd2_at
        · rw [zd2_nk z, zd2_ne (by decide)]; exact j5 p (by omega)
      · show (d1 (d2 (d2 Q 165 j 0) 166 j 0) 169 j (-1)).1 169 p = _
        by_cases z : p = j
        · subst z; exact zd1_at
        · rw [zd1_nk z, zd2_1, zd2_1]; exact j6 p (by omega))
    (fun s hs => by
      obtain ⟨x, Q⟩ := s
      obtain ⟨j1, j2, j3⟩ := hs
      have j1 : x = Int32.ofInt (N : Int) := j1
      have j2 : ∀ a, a ≠ 169 → Q.1 a = M1.1 a := j2
      subst j1
      refine ⟨Q, ?_, j2, j3⟩
      show fX4_send_l22 153 (Int32.ofInt (N : Int)) Q = _
      unfold fX4_send_l22
      rw [j2 153 (by decide), h7b, if_pos (Int32.le_refl _)]) N 0 dFl (0, M1) (by omega) (by show N < 100000; omega) ⟨rfl, fun a _ => rfl, fun a _ _ => rfl, fun p hp => by omega, fun p hp => by omega, fun p hp => by omega⟩
  rw [e2, Option.bind_some]
  show ∃ M g, ((dlp (fun q => dP2 q (fun v20 m21 => fX4_send_l64 153 v20 m21)) dFl (0, M2)).bind _) = _ ∧ _
  have h7c : M2.1 153 7 = Int32.ofInt (N : Int) := by rw [w1 153 (by decide)]; exact h7b
  have hWm2 : ∀ d p, d < N → p < N → M2.2 (154 + 1 + d) p = Int64.ofInt (zWt N w d p) := fun d p hd hp => by rw [w2 _ (by omega) (by omega)]; exact f3 d p hd hp
  obtain ⟨M3, e3, g, u, v, hJ⟩ := dlp_inv (f := fun q => dP2 q (fun v20 m21 => fX4_send_l64 153 v20 m21)) (Q := fun r => ∃ g u v, zJ M2 N N (zWt N w) g u v r) (fun j s => s.1 = Int32.ofInt (j : Int) ∧ ∃ g u v, zJ M2 N j (zWt N w) g u v s.2) N
    (fun j s hj hs => by
      obtain ⟨x, Q⟩ := s
      obtain ⟨j1, g, u, v, j2⟩ := hs
      have j1 : x = Int32.ofInt (j : Int) := j1
      have j2 : zJ M2 N j (zWt N w) g u v Q := j2
      subst j1
      obtain ⟨M', g', u', v', y1, y2⟩ := fX4_bringIn_ok hN hj h7c hWm2 (zWt_in hN hwb) j2
      refine Or.inl ⟨(Int32.ofInt ((j + 1 : Nat) : Int), M'), ?_, rfl, g', u', v', y2⟩
      show fX4_send_l64 153 (Int32.ofInt (j : Int)) Q = _
      unfold fX4_send_l64
      rw [j2.1 153 (by decide) (by decide) (by decide), h7c, if_neg (by rw [zi_le (by omega) (by omega) (by omega) (by omega)]; omega), y1, Option.bind_some, dlet_v, zi_1]; rfl)
    (fun s hs => by
      obtain ⟨x, Q⟩ := s
      obtain ⟨j1, g, u, v, j2⟩ := hs
      have j1 : x = Int32.ofInt (N : Int) := j1
      have j2 : zJ M2 N N (zWt N w) g u v Q := j2
      subst j1
      refine ⟨Q, ?_, g, u, v, j2⟩
      show fX4_send_l64 153 (Int32.ofInt (N : Int)) Q = _
      unfold fX4_send_l64
      rw [j2.1 153 (by decide) (by decide) (by decide), h7c, if_pos (Int32.le_refl _)]) N 0 dFl (0, M2) (by omega) (by show N < 100000; omega) ⟨rfl, fun _ => 0, fun _ => 0, fun _ => 0, fun a _ _ _ => rfl, fun a _ _ _ => rfl, ⟨fun d hd => w3 d hd, fun p hp => w4 p hp⟩, ⟨fun d hd => by omega, fun p hp => Or.inl ⟨w5 p hp, fun d hd => by omega⟩⟩, ⟨fun d p hd => by omega, fun d hd => by omega⟩, fun d _ => by simp, fun d _ _ => rfl, fun p _ => by simp, fun p _ _ => rfl⟩
  rw [e3, Option.bind_some]
  show ∃ M g, ((dlp (fun q => dP2 q (fun v30 m31 => fX4_send_l88 153 (49 + 8 * i) gl v30 m31)) dFl (0, M3)).bind _) = _ ∧ _
  obtain ⟨i1, i2, i3, i5, ⟨i6, i7⟩, i8, i9, i10, i11⟩ := hJ
  have hg : zInj N g := ⟨fun d hd => (i5.1 d hd).1, zHo_inj i5 hN⟩
  have best : zBest N w g := zBest_of hN hg i6 i7
  have fr3 : ∀ a, a < 153 ∨ 171 ≤ a → M3.1 a = m.1 a := fun a ha => by
    rw [i1 a (by omega) (by omega) (by omega), w1 a (by omega), f1, zd1_ne (by omega)]
  have fr4 : ∀ a, a < 153 ∨ 171 ≤ a → M3.2 a = m.2 a := fun a ha => by
    rw [i2 a (by omega) (by omega) (by omega), w2 a (by omega) (by omega), f2 a (by omega), zd1_2]
  have h7d : M3.1 153 7 = Int32.ofInt (N : Int) := by rw [i1 153 (by decide) (by decide) (by decide)]; exact h7c
  obtain ⟨M4, e4, x1, x2, x3⟩ := dlp_inv (f := fun q => dP2 q (fun v30 m31 => fX4_send_l88 153 (49 + 8 * i) gl v30 m31)) (Q := fun (r : dM) => (∀ a, a ≠ 49 + 8 * i + 7 → a ≠ 49 + 8 * i + 4 + 1 → a ≠ 49 + 8 * i + 4 + 2 → r.1 a = M3.1 a) ∧ r.2 = M3.2 ∧ ∀ d, d < N → r.1 (49 + 8 * i + 7) d = Int32.ofInt ((g d : Nat) : Int) ∧ r.1 (49 + 8 * i + 4 + 1) d = Int32.ofInt (bx (g d)) ∧ r.1 (49 + 8 * i + 4 + 2) d = Int32.ofInt (by' (g d))) (fun j s => s.1 = Int32.ofInt (j : Int) ∧ (∀ a, a ≠ 49 + 8 * i + 7 → a ≠ 49 + 8 * i + 4 + 1 → a ≠ 49 + 8 * i + 4 + 2 → s.2.1 a = M3.1 a) ∧ s.2.2 = M3.2 ∧ ∀ d, d < N → g d < j → s.2.1 (49 + 8 * i + 7) d = Int32.ofInt ((g d : Nat) : Int) ∧ s.2.1 (49 + 8 * i + 4 + 1) d = Int32.ofInt (bx (g d)) ∧ s.2.1 (49 + 8 * i + 4 + 2) d = Int32.ofInt (by' (g d))) N
    (fun j s hj hs => by
      obtain ⟨x, Q⟩ := s
      obtain ⟨j1, j2, j3, j4⟩ := hs
      have j1 : x = Int32.ofInt (j : Int) := j1
      have j2 : ∀ a, a ≠ 49 + 8 * i + 7 → a ≠ 49 + 8 * i + 4 + 1 → a ≠ 49 + 8 * i + 4 + 2 → Q.1 a = M3.1 a := j2
      have j4 : ∀ d, d < N → g d < j → Q.1 (49 + 8 * i + 7) d = Int32.ofInt ((g d : Nat) : Int) ∧ Q.1 (49 + 8 * i + 4 + 1) d = Int32.ofInt (bx (g d)) ∧ Q.1 (49 + 8 * i + 4 + 2) d = Int32.ofInt (by' (g d)) := j4
      subst j1
      obtain ⟨d, hd, ed⟩ := zPig N g hg j hj
      have ho : Q.1 169 j = Int32.ofInt (d : Int) := by rw [j2 169 (by omega) (by omega) (by omega), ← ed]; exact (i5.1 d hd).2
      refine Or.inl ⟨(Int32.ofInt ((j + 1 : Nat) : Int), d1 (d1 (d1 Q (49 + 8 * i + 7) d (Int32.ofInt (j : Int))) (49 + 8 * i + 4 + 1) d (Int32.ofInt (bx j))) (49 + 8 * i + 4 + 2) d (Int32.ofInt (by' j))), ?_, rfl, fun a a1 a2 a3 => by show (d1 (d1 (d1 _ _ _ _) _ _ _) _ _ _).1 a = _; rw [zd1_ne a3, zd1_ne a2, zd1_ne a1]; exact j2 a a1 a2 a3, j3, fun c hc hcj => ?_⟩
      · show fX4_send_l88 153 (49 + 8 * i) gl (Int32.ofInt (j : Int)) Q = _
        unfold fX4_send_l88
        rw [j2 153 (by omega) (by omega) (by omega), h7d, if_neg (by rw [zi_le (by omega) (by omega) (by omega) (by omega)]; omega), kd169, dg_ok (dIx_nat (by omega) (by decide)), zi_cn (by omega), ho, fX5_send_ok hi (by omega) (by omega) hgl hg2 (by rw [j2 _ (by omega) (by omega) (by omega), fr3 _ (by omega)]; exact (hb j hj).1) (by rw [j2 _ (by omega) (by omega) (by omega), fr3 _ (by omega)]; exact (hb j hj).2), Option.bind_some, dlet_v, zi_1]; rfl
      · show (d1 (d1 (d1 Q _ _ _) _ _ _) _ _ _).1 _ c = _ ∧ (d1 (d1 (d1 Q _ _ _) _ _ _) _ _ _).1 _ c = _ ∧ (d1 (d1 (d1 Q _ _ _) _ _ _) _ _ _).1 _ c = _
        rw [zd1_ne (show 49 + 8 * i + 7 ≠ 49 + 8 * i + 4 + 2 by omega), zd1_ne (show 49 + 8 * i + 7 ≠ 49 + 8 * i + 4 + 1 by omega), zd1_ne (show 49 + 8 * i + 4 + 1 ≠ 49 + 8 * i + 4 + 2 by omega)]
        by_cases z : c = d
        · subst z; rw [zd1_at, zd1_at, zd1_at, ed]; exact ⟨rfl, rfl, rfl⟩
        · have lt : g c < j := by
            rcases Nat.lt_or_ge (g c) j with y | y
            · exact y
            · exact absurd (hg.2 c d hc hd (by omega)) z
          rw [zd1_nk z, zd1_nk z, zd1_ne (show 49 + 8 * i + 4 + 1 ≠ 49 + 8 * i + 7 by omega), zd1_nk z, zd1_ne (show 49 + 8 * i + 4 + 2 ≠ 49 + 8 * i + 4 + 1 by omega), zd1_ne (show 49 + 8 * i + 4 + 2 ≠ 49 + 8 * i + 7 by omega)]
          exact j4 c hc lt)
    (fun s hs => by
      obtain ⟨x, Q⟩ := s
      obtain ⟨j1, j2, j3, j4⟩ := hs
      have j1 : x = Int32.ofInt (N : Int) := j1
      have j2 : ∀ a, a ≠ 49 + 8 * i + 7 → a ≠ 49 + 8 * i + 4 + 1 → a ≠ 49 + 8 * i + 4 + 2 → Q.1 a = M3.1 a := j2
      subst j1
      refine ⟨Q, ?_, j2, j3, fun d hd => j4 d hd (hg.1 d hd)⟩
      show fX4_send_l88 153 (49 + 8 * i) gl (Int32.ofInt (N : Int)) Q = _
      unfold fX4_send_l88
      rw [j2 153 (by omega) (by omega) (by omega), h7d, if_pos (Int32.le_refl _)]) N 0 dFl (0, M3) (by omega) (by show N < 100000; omega) ⟨rfl, fun a _ _ _ => rfl, rfl, fun d _ hd => by omega⟩
  exact ⟨M4, g, by rw [e4]; rfl, best, fun a ha a1 a2 a3 => by rw [x1 a a1 a2 a3]; exact fr3 a ha, fun a ha => by rw [x2]; exact fr4 a ha, x3⟩
