/-! all together -/
theorem zI_dI : zI dI := by
  refine ⟨4, 0, 0, 0, fun _ => 14, fun _ => -1, fun _ => false, fun _ => false, fun _ _ => 0, fun _ _ => 0, fun _ => 0, fun _ => 1, fun _ => 60, fun _ => false, fun _ d => d, fun _ _ => 0, fun _ _ => 0, 0, 9999, fun _ _ => 0, fun _ => 0, ⟨by omega, by omega, fun d _ => ⟨by show (5 : Int) ≤ 14; omega, by show (14 : Int) ≤ 40; omega⟩, fun a _ => ⟨by show (-1 : Int) ≤ -1; omega, by show (-1 : Int) < 10; omega⟩⟩, ⟨by decide +kernel, fun d hd => ?_, fun a ha => ?_⟩, ⟨by decide +kernel, fun d hd => ?_, fun a ha => ?_⟩, ⟨by omega, fun s hs => by omega⟩, ⟨by decide +kernel, fun s hs => by omega⟩, ⟨by decide +kernel, fun s hs => by omega⟩, ⟨by omega, fun i hi => by omega⟩, ⟨by decide +kernel, fun i hi => by omega⟩, ⟨by decide +kernel, fun i hi => by omega⟩, ⟨by omega, fun h => by omega, fun i hi => by omega⟩, ⟨by decide +kernel, fun i hi => by omega⟩, ⟨fun i hi d hd => ?_, fun i hi => by omega⟩, ⟨by omega, by omega, by omega, fun b _ => ⟨by show (0 : Int) ≤ 0; omega, by show (0 : Int) ≤ 1000; omega, fun c _ => ⟨by show (0 : Int) ≤ 0; omega, by show (0 : Int) ≤ 1000; omega⟩⟩⟩, ⟨by decide +kernel, by decide +kernel, fun b hb => ⟨?_, fun c hc => ?_⟩⟩, ⟨by decide +kernel, by decide +kernel, fun b hb => ⟨?_, fun c hc => ?_⟩⟩⟩
  · have : ∀ d : Fin 10, dI.1 2 d.val = Int32.ofInt 14 ∧ dI.1 3 d.val = zB false := by decide +kernel
    exact this ⟨d, hd⟩
  · have : ∀ a : Fin 3, dI.1 4 a.val = Int32.ofInt (-1) ∧ dI.1 5 a.val = zB false := by decide +kernel
    exact this ⟨a, ha⟩
  · have : ∀ d : Fin 10, dI.1 445 d.val = Int32.ofInt 14 ∧ dI.1 446 d.val = zB false := by decide +kernel
    exact this ⟨d, hd⟩
  · have : ∀ a : Fin 3, dI.1 447 a.val = Int32.ofInt (-1) ∧ dI.1 448 a.val = zB false := by decide +kernel
    exact this ⟨a, ha⟩
  · have : ∀ k : Fin 120, dI.1 458 k.val = 0 := by decide +kernel
    rw [decide_eq_false (by omega)]
    exact this ⟨10 * i + d, by omega⟩
  · have : ∀ b : Fin 6, dI.1 443 b.val = Int32.ofInt 0 := by decide +kernel
    exact this ⟨b, hb⟩
  · have : ∀ b : Fin 6, ∀ c : Fin 4, dI.1 (437 + b.val) c.val = Int32.ofInt 0 := by decide +kernel
    exact this ⟨b, hb⟩ ⟨c, hc⟩
  · have : ∀ b : Fin 6, dI.1 460 b.val = Int32.ofInt 0 := by decide +kernel
    exact this ⟨b, hb⟩
  · have : ∀ k : Fin 24, dI.1 459 k.val = Int32.ofInt 0 := by decide +kernel
    exact this ⟨4 * b + c, by omega⟩
theorem fLaw_b_ok {xs : Nat → Int32} {nL : Nat} {i : Int32} {m : dM} (hI : zI m) (hn : ¬ (nI nL - 6 < i)) (g0 : dIx i nL = true) (g1 : dIx (i + 1) nL = true) (g2 : dIx (i + 2) nL = true) (g3 : dIx (i + 3) nL = true) (g4 : dIx (i + 4) nL = true) (g5 : dIx (i + 5) nL = true) : ∃ m', fLaw_b xs nL i m = some (.inl (i + 6, m')) ∧ zI m' := by
  unfold fLaw_b
  rw [if_neg hn, dg_ok g0]
  have fin : ∀ x : Option dM, (∃ m', x = some m' ∧ zI m') → ∃ m', (x.bind (fun m9 => some (.inl (i + 6, m9))) : Option ((Int32 × dM) ⊕ dM)) = some (.inl (i + 6, m')) ∧ zI m' := fun x ⟨m', e, h⟩ => ⟨m', by rw [e, Option.bind_some], h⟩
  apply fin
  generalize (xs (Int32.toNatClampNeg i)) &&& 31 = z
  by_cases c0 : z = 0
  · rw [if_pos c0]; exact fLaw_0_ok hI g1
  rw [if_neg c0]
  by_cases c1 : z = 1
  · rw [if_pos c1]; exact fLaw_1_ok hI g1 g2
  rw [if_neg c1]
  by_cases c2 : z = 2
  · rw [if_pos c2]; exact fLaw_2_ok hI g1 g2
  rw [if_neg c2]
  by_cases c3 : z = 3
  · rw [if_pos c3]; exact fLaw_3_ok hI g1 g2 g3
  rw [if_neg c3]
  by_cases c4 : z = 4
  · rw [if_pos c4]; exact fLaw_4_ok hI g1 g2 g3 g4
  rw [if_neg c4]
  by_cases c5 : z = 5
  · rw [if_pos c5]; exact fLaw_5_ok hI g1 g2 g3 g4
  rw [if_neg c5]
  by_cases c6 : z = 6
  · rw [if_pos c6]; exact fLaw_6_ok hI g1 g2 g3
  rw [if_neg c6]
  by_cases c7 : z = 7
  · rw [if_pos c7]; exact fLaw_7_ok hI g1 g2 g3 g4
  rw [if_neg c7]
  by_cases c8 : z = 8
  · rw [if_pos c8]; exact fLaw_8_ok hI g1 g2 g3 g4 g5
  rw [if_neg c8]
  by_cases c9 : z = 9
  · rw [if_pos c9]; exact fLaw_9_ok hI 
  rw [if_neg c9]
  by_cases c10 : z = 10
  · rw [if_pos c10]; exact fLaw_10_ok hI g1 g2
  rw [if_neg c10]
  by_cases c11 : z = 11
  · rw [if_pos c11]; exact fLaw_11_ok hI g1
  rw [if_neg c11]
  by_cases c12 : z = 12
  · rw [if_pos c12]; exact fLaw_12_ok hI g1 g2 g3
  rw [if_neg c12]
  by_cases c13 : z = 13
  · rw [if_pos c13]; exact fLaw_13_ok hI g1 g2
  rw [if_neg c13]
  by_cases c14 : z = 14
  · rw [if_pos c14]; exact fLaw_14_ok hI 
  rw [if_neg c14]
  by_cases c15 : z = 15
  · rw [if_pos c15]; exact fLaw_15_ok hI g1 g2 g3 g4
  rw [if_neg c15]
  by_cases c16 : z = 16
  · rw [if_pos c16]; exact fLaw_16_ok hI g1 g2 g3 g4 g5
  rw [if_neg c16]
  by_cases c17 : z = 17
  · rw [if_pos c17]; exact fLaw_17_ok hI g1 g2 g3
  rw [if_neg c17]
  by_cases c18 : z = 18
  · rw [if_pos c18]; exact fLaw_18_ok hI 
  rw [if_neg c18]
  by_cases c19 : z = 19
  · rw [if_pos c19]; exact fLaw_19_ok hI 
  rw [if_neg c19]
  by_cases c20 : z = 20
  · rw [if_pos c20]; exact fLaw_20_ok hI 
  rw [if_neg c20]
  by_cases c21 : z = 21
  · rw [if_pos c21]; exact fLaw_21_ok hI g1 g2
  rw [if_neg c21]
  by_cases c22 : z = 22
  · rw [if_pos c22]; exact fLaw_22_ok hI g1 g2 g3
  rw [if_neg c22]
  by_cases c23 : z = 23
  · rw [if_pos c23]; exact fLaw_23_ok hI g1 g2
  rw [if_neg c23]
  by_cases c24 : z = 24
  · rw [if_pos c24]; exact fLaw_24_ok hI g1
  rw [if_neg c24]
  by_cases c25 : z = 25
  · rw [if_pos c25]; exact fLaw_25_ok hI g1 g2
  rw [if_neg c25]
  exact ⟨m, rfl, hI⟩
theorem fLaw_ok {xs : Nat → Int32} {L : Nat} (hL : L ≤ 3072) : ∃ r, fLaw xs L dI = some r := by
  unfold fLaw
  obtain ⟨r, e, _⟩ := dlp_inv (f := fun q => dP2 q (fun i m => fLaw_b xs L i m)) (Q := fun _ => True) (fun k s => s.1 = Int32.ofInt ((6 * k : Nat) : Int) ∧ zI s.2) (L / 6)
    (fun k s hk hs => by
      obtain ⟨v, m⟩ := s
      obtain ⟨i1, i2⟩ := hs
      have i1 : v = Int32.ofInt ((6 * k : Nat) : Int) := i1
      subst i1
      have h6 : 6 * k + 6 ≤ L := by omega
      have ad : ∀ j : Nat, j < 6 → dIx (Int32.ofInt ((6 * k : Nat) : Int) + Int32.ofInt (j : Int)) L = true := fun j hj => by
        rw [zi_add]; exact dIx_ok (by omega) (by omega) (by omega)
      have g0 : dIx (Int32.ofInt ((6 * k : Nat) : Int)) L = true := dIx_ok (by omega) (by omega) (by omega)
      have hn : ¬ (nI L - 6 < Int32.ofInt ((6 * k : Nat) : Int)) := by
        rw [zi_nI, show (6 : Int32) = Int32.ofInt 6 from rfl, zi_sub, zi_lt (by omega) (by omega) (by omega) (by omega)]; omega
      obtain ⟨m', e, h⟩ := fLaw_b_ok (xs := xs) i2 hn g0 (ad 1 (by omega)) (ad 2 (by omega)) (ad 3 (by omega)) (ad 4 (by omega)) (ad 5 (by omega))
      refine Or.inl ⟨_, e, ?_, h⟩
      show Int32.ofInt ((6 * k : Nat) : Int) + 6 = Int32.ofInt ((6 * (k + 1) : Nat) : Int)
      rw [show (6 : Int32) = Int32.ofInt 6 from rfl, zi_add]; congr 1)
    (fun s hs => by
      obtain ⟨v, m⟩ := s
      obtain ⟨i1, i2⟩ := hs
      have i1 : v = Int32.ofInt ((6 * (L / 6) : Nat) : Int) := i1
      subst i1
      refine ⟨m, ?_, trivial⟩
      show fLaw_b xs L (Int32.ofInt ((6 * (L / 6) : Nat) : Int)) m = _
      unfold fLaw_b
      rw [if_pos]
      rw [zi_nI, show (6 : Int32) = Int32.ofInt 6 from rfl, zi_sub, zi_lt (by omega) (by omega) (by omega) (by omega)]; omega) (L / 6) 0 dFl (0, dI) (by omega) (by show _ < 100000; omega) ⟨rfl, zI_dI⟩
  exact ⟨r, e⟩
