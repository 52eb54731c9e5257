def qj_sx1 : Nat → Nat → Int := zAdd 0 (zLn 0 400 4) (fun _ _ => 0)
def qj_sy2 : Nat → Nat → Int := zAdd 0 (zLn 0 60 4) (fun _ _ => 0)
def qj_sx3 : Nat → Nat → Int := zAdd 1 (zLn 10 400 4) qj_sx1
def qj_sy4 : Nat → Nat → Int := zAdd 1 (zLn 0 60 4) qj_sy2
def qj_sx5 : Nat → Nat → Int := zAdd 2 (zLn 20 400 4) qj_sx3
def qj_sy6 : Nat → Nat → Int := zAdd 2 (zLn 0 60 4) qj_sy4
def qj_sx7 : Nat → Nat → Int := zAdd 3 (zLn 30 400 4) qj_sx5
def qj_sy8 : Nat → Nat → Int := zAdd 3 (zLn 0 60 4) qj_sy6
def qj_sx9 : Nat → Nat → Int := zAdd 4 (zLn 40 400 4) qj_sx7
def qj_sy10 : Nat → Nat → Int := zAdd 4 (zLn 0 60 4) qj_sy8
def qj_sx11 : Nat → Nat → Int := zAdd 5 (zLn 50 400 4) qj_sx9
def qj_sy12 : Nat → Nat → Int := zAdd 5 (zLn 0 60 4) qj_sy10
def qj_sx13 : Nat → Nat → Int := zAdd 6 (zLn 60 400 4) qj_sx11
def qj_sy14 : Nat → Nat → Int := zAdd 6 (zLn 0 60 4) qj_sy12
def qj_sx15 : Nat → Nat → Int := zAdd 7 (zLn 70 400 4) qj_sx13
def qj_sy16 : Nat → Nat → Int := zAdd 7 (zLn 0 60 4) qj_sy14
def qj_sx17 : Nat → Nat → Int := zAdd 8 (zLn 80 400 4) qj_sx15
def qj_sy18 : Nat → Nat → Int := zAdd 8 (zLn 0 60 4) qj_sy16
def qj_sx19 : Nat → Nat → Int := zAdd 9 (zLn 90 400 4) qj_sx17
def qj_sy20 : Nat → Nat → Int := zAdd 9 (zLn 0 60 4) qj_sy18
def qj_sx21 : Nat → Nat → Int := zAdd 10 (zLn 100 400 4) qj_sx19
def qj_sy22 : Nat → Nat → Int := zAdd 10 (zLn 0 60 4) qj_sy20
def qj_sx23 : Nat → Nat → Int := zAdd 11 (zLn 110 400 4) qj_sx21
def qj_sy24 : Nat → Nat → Int := zAdd 11 (zLn 0 60 4) qj_sy22
theorem pL_jdA {go : Nat → Nat → Nat} {m : dM} (K : zK 4 0 0 0 (fun _ => 14) (fun _ => -1) (fun _ => false) (fun _ => false) (fun _ _ => 0) (fun _ _ => 0) (fun _ => 0) (fun _ => 0) (fun _ => 0) (fun _ => false) go (fun _ _ => 0) (fun _ _ => 0) 0 9999 (fun _ _ => 0) (fun _ => 0) m) : ∃ r, fL_jdA m = some r ∧ (∃ go, zK 4 12 0 0 (fun _ => 14) (fun _ => -1) (fun _ => false) (fun _ => false) qj_sx23 qj_sy24 (fun _ => 0) (fun _ => 0) (fun _ => 0) (fun _ => false) go (fun _ _ => 0) (fun _ _ => 0) 0 9999 (fun _ _ => 0) (fun _ => 0) r) := by
  unfold fL_jdA
  rw [show (10 * 0 : Int32) = 0 from by decide]
  obtain ⟨m1, e, K⟩ := g4 (a := 0) (b := 0) (c := 400) (d := 60) K (by decide) (by decide +kernel) (by decide +kernel) (by decide)
  have K : zK 4 1 0 0 (fun _ => 14) (fun _ => -1) (fun _ => false) (fun _ => false) qj_sx1 qj_sy2 (fun _ => 0) (fun _ => 0) (fun _ => 0) (fun _ => false) go (fun _ _ => 0) (fun _ _ => 0) 0 9999 (fun _ _ => 0) (fun _ => 0) m1 := K
  refine zgoA e (by decide) ?_
  rw [show (10 * 1 : Int32) = 10 from by decide]
  obtain ⟨m1, e, K⟩ := g4 (a := 10) (b := 0) (c := 400) (d := 60) K (by decide) (by decide +kernel) (by decide +kernel) (by decide)
  have K : zK 4 2 0 0 (fun _ => 14) (fun _ => -1) (fun _ => false) (fun _ => false) qj_sx3 qj_sy4 (fun _ => 0) (fun _ => 0) (fun _ => 0) (fun _ => false) go (fun _ _ => 0) (fun _ _ => 0) 0 9999 (fun _ _ => 0) (fun _ => 0) m1 := K
  refine zgoA e (by decide) ?_
  rw [show (10 * 2 : Int32) = 20 from by decide]
  obtain ⟨m1, e, K⟩ := g4 (a := 20) (b := 0) (c := 400) (d := 60) K (by decide) (by decide +kernel) (by decide +kernel) (by decide)
  have K : zK 4 3 0 0 (fun _ => 14) (fun _ => -1) (fun _ => false) (fun _ => false) qj_sx5 qj_sy6 (fun _ => 0) (fun _ => 0) (fun _ => 0) (fun _ => false) go (fun _ _ => 0) (fun _ _ => 0) 0 9999 (fun _ _ => 0) (fun _ => 0) m1 := K
  refine zgoA e (by decide) ?_
  rw [show (10 * 3 : Int32) = 30 from by decide]
  obtain ⟨m1, e, K⟩ := g4 (a := 30) (b := 0) (c := 400) (d := 60) K (by decide) (by decide +kernel) (by decide +kernel) (by decide)
  have K : zK 4 4 0 0 (fun _ => 14) (fun _ => -1) (fun _ => false) (fun _ => false) qj_sx7 qj_sy8 (fun _ => 0) (fun _ => 0) (fun _ => 0) (fun _ => false) go (fun _ _ => 0) (fun _ _ => 0) 0 9999 (fun _ _ => 0) (fun _ => 0) m1 := K
  refine zgoA e (by decide) ?_
  rw [show (10 * 4 : Int32) = 40 from by decide]
  obtain ⟨m1, e, K⟩ := g4 (a := 40) (b := 0) (c := 400) (d := 60) K (by decide) (by decide +kernel) (by decide +kernel) (by decide)
  have K : zK 4 5 0 0 (fun _ => 14) (fun _ => -1) (fun _ => false) (fun _ => false) qj_sx9 qj_sy10 (fun _ => 0) (fun _ => 0) (fun _ => 0) (fun _ => false) go (fun _ _ => 0) (fun _ _ => 0) 0 9999 (fun _ _ => 0) (fun _ => 0) m1 := K
  refine zgoA e (by decide) ?_
  rw [show (10 * 5 : Int32) = 50 from by decide]
  obtain ⟨m1, e, K⟩ := g4 (a := 50) (b := 0) (c := 400) (d := 60) K (by decide) (by decide +kernel) (by decide +kernel) (by decide)
  have K : zK 4 6 0 0 (fun _ => 14) (fun _ => -1) (fun _ => false) (fun _ => false) qj_sx11 qj_sy12 (fun _ => 0) (fun _ => 0) (fun _ => 0) (fun _ => false) go (fun _ _ => 0) (fun _ _ => 0) 0 9999 (fun _ _ => 0) (fun _ => 0) m1 := K
  refine zgoA e (by decide) ?_
  rw [show (10 * 6 : Int32) = 60 from by decide]
  obtain ⟨m1, e, K⟩ := g4 (a := 60) (b := 0) (c := 400) (d := 60) K (by decide) (by decide +kernel) (by decide +kernel) (by decide)
  have K : zK 4 7 0 0 (fun _ => 14) (fun _ => -1) (fun _ => false) (fun _ => false) qj_sx13 qj_sy14 (fun _ => 0) (fun _ => 0) (fun _ => 0) (fun _ => false) go (fun _ _ => 0) (fun _ _ => 0) 0 9999 (fun _ _ => 0) (fun _ => 0) m1 := K
  refine zgoA e (by decide) ?_
  rw [show (10 * 7 : Int32) = 70 from by decide]
  obtain ⟨m1, e, K⟩ := g4 (a := 70) (b := 0) (c := 400) (d := 60) K (by decide) (by decide +kernel) (by decide +kernel) (by decide)
  have K : zK 4 8 0 0 (fun _ => 14) (fun _ => -1) (fun _ => false) (fun _ => false) qj_sx15 qj_sy16 (fun _ => 0) (fun _ => 0) (fun _ => 0) (fun _ => false) go (fun _ _ => 0) (fun _ _ => 0) 0 9999 (fun _ _ => 0) (fun _ => 0) m1 := K
  refine zgoA e (by decide) ?_
  rw [show (10 * 8 : Int32) = 80 from by decide]
  obtain ⟨m1, e, K⟩ := g4 (a := 80) (b := 0) (c := 400) (d := 60) K (by decide) (by decide +kernel) (by decide +kernel) (by decide)
  have K : zK 4 9 0 0 (fun _ => 14) (fun _ => -1) (fun _ => false) (fun _ => false) qj_sx17 qj_sy18 (fun _ => 0) (fun _ => 0) (fun _ => 0) (fun _ => false) go (fun _ _ => 0) (fun _ _ => 0) 0 9999 (fun _ _ => 0) (fun _ => 0) m1 := K
  refine zgoA e (by decide) ?_
  rw [show (10 * 9 : Int32) = 90 from by decide]
  obtain ⟨m1, e, K⟩ := g4 (a := 90) (b := 0) (c := 400) (d := 60) K (by decide) (by decide +kernel) (by decide +kernel) (by decide)
  have K : zK 4 10 0 0 (fun _ => 14) (fun _ => -1) (fun _ => false) (fun _ => false) qj_sx19 qj_sy20 (fun _ => 0) (fun _ => 0) (fun _ => 0) (fun _ => false) go (fun _ _ => 0) (fun _ _ => 0) 0 9999 (fun _ _ => 0) (fun _ => 0) m1 := K
  refine zgoA e (by decide) ?_
  rw [show (10 * 10 : Int32) = 100 from by decide]
  obtain ⟨m1, e, K⟩ := g4 (a := 100) (b := 0) (c := 400) (d := 60) K (by decide) (by decide +kernel) (by decide +kernel) (by decide)
  have K : zK 4 11 0 0 (fun _ => 14) (fun _ => -1) (fun _ => false) (fun _ => false) qj_sx21 qj_sy22 (fun _ => 0) (fun _ => 0) (fun _ => 0) (fun _ => false) go (fun _ _ => 0) (fun _ _ => 0) 0 9999 (fun _ _ => 0) (fun _ => 0) m1 := K
  refine zgoA e (by decide) ?_
  rw [show (10 * 11 : Int32) = 110 from by decide]
  obtain ⟨m1, e, K⟩ := g4 (a := 110) (b := 0) (c := 400) (d := 60) K (by decide) (by decide +kernel) (by decide +kernel) (by decide)
  have K : zK 4 12 0 0 (fun _ => 14) (fun _ => -1) (fun _ => false) (fun _ => false) qj_sx23 qj_sy24 (fun _ => 0) (fun _ => 0) (fun _ => 0) (fun _ => false) go (fun _ _ => 0) (fun _ _ => 0) 0 9999 (fun _ _ => 0) (fun _ => 0) m1 := K
  refine zgoA e (by decide) ?_
  rw [show (10 * 12 : Int32) = 120 from by decide]
  obtain ⟨m1, e, K⟩ := r4_73 (a := 120) (b := 0) (c := 400) (d := 60) K (by decide) (by decide +kernel) (by decide +kernel) (by decide)
  refine zgoA e rfl ?_
  exact zgoE ⟨_, K⟩
def qj_so25 : Nat → Nat := zUp (fun _ => 0) 0 0
def qj_co26 : Nat → Int := zUp (fun _ => 0) 0 10
def qj_te27 : Nat → Int := zUp (fun _ => 0) 0 120
def qj_lt28 : Nat → Bool := zUp (fun _ => false) 0 false
def qj_so29 : Nat → Nat := zUp qj_so25 1 1
def qj_co30 : Nat → Int := zUp qj_co26 1 10
def qj_te31 : Nat → Int := zUp qj_te27 1 120
def qj_lt32 : Nat → Bool := zUp qj_lt28 1 true
def qj_so33 : Nat → Nat := zUp qj_so29 2 2
def qj_co34 : Nat → Int := zUp qj_co30 2 10
def qj_te35 : Nat → Int := zUp qj_te31 2 120
def qj_lt36 : Nat → Bool := zUp qj_lt32 2 false
def qj_so37 : Nat → Nat := zUp qj_so33 3 3
def qj_co38 : Nat → Int := zUp qj_co34 3 10
def qj_te39 : Nat → Int := zUp qj_te35 3 120
def qj_lt40 : Nat → Bool := zUp qj_lt36 3 true
def qj_so41 : Nat → Nat := zUp qj_so37 4 4
def qj_co42 : Nat → Int := zUp qj_co38 4 10
def qj_te43 : Nat → Int := zUp qj_te39 4 120
def qj_lt44 : Nat → Bool := zUp qj_lt40 4 false
def qj_so45 : Nat → Nat := zUp qj_so41 5 5
def qj_co46 : Nat → Int := zUp qj_co42 5 10
def qj_te47 : Nat → Int := zUp qj_te43 5 120
def qj_lt48 : Nat → Bool := zUp qj_lt44 5 true
def qj_so49 : Nat → Nat := zUp qj_so45 6 6
def qj_co50 : Nat → Int := zUp qj_co46 6 10
def qj_te51 : Nat → Int := zUp qj_te47 6 120
def qj_lt52 : Nat → Bool := zUp qj_lt48 6 false
def qj_so53 : Nat → Nat := zUp qj_so49 7 7
def qj_co54 : Nat → Int := zUp qj_co50 7 10
def qj_te55 : Nat → Int := zUp qj_te51 7 120
def qj_lt56 : Nat → Bool := zUp qj_lt52 7 true
def qj_so57 : Nat → Nat := zUp qj_so53 8 8
def qj_co58 : Nat → Int := zUp qj_co54 8 10
def qj_te59 : Nat → Int := zUp qj_te55 8 120
def qj_lt60 : Nat → Bool := zUp qj_lt56 8 false
def qj_so61 : Nat → Nat := zUp qj_so57 9 9
def qj_co62 : Nat → Int := zUp qj_co58 9 10
def qj_te63 : Nat → Int := zUp qj_te59 9 120
def qj_lt64 : Nat → Bool := zUp qj_lt60 9 true
def qj_so65 : Nat → Nat := zUp qj_so61 10 10
def qj_co66 : Nat → Int := zUp qj_co62 10 10
def qj_te67 : Nat → Int := zUp qj_te63 10 120
def qj_lt68 : Nat → Bool := zUp qj_lt64 10 false
def qj_so69 : Nat → Nat := zUp qj_so65 11 11
def qj_co70 : Nat → Int := zUp qj_co66 11 10
def qj_te71 : Nat → Int := zUp qj_te67 11 120
def qj_lt72 : Nat → Bool := zUp qj_lt68 11 true
theorem pL_jdB {go : Nat → Nat → Nat} {m : dM} (K : zK 4 12 0 0 (fun _ => 14) (fun _ => -1) (fun _ => false) (fun _ => false) qj_sx23 qj_sy24 (fun _ => 0) (fun _ => 0) (fun _ => 0) (fun _ => false) go (fun _ _ => 0) (fun _ _ => 0) 0 9999 (fun _ _ => 0) (fun _ => 0) m) : ∃ r, fL_jdB m = some r ∧ (∃ go, zK 4 12 12 0 (fun _ => 14) (fun _ => -1) (fun _ => false) (fun _ => false) qj_sx23 qj_sy24 qj_so69 qj_co70 qj_te71 qj_lt72 go (fun _ _ => 0) (fun _ _ => 0) 0 9999 (fun _ _ => 0) (fun _ => 0) r) := by
  unfold fL_jdB
  rw [show (0 - 0 / 12 * 12 : Int32) = 0 from by decide]
  rw [show (0 - 0 / 2 * 2 : Int32) = 0 from by decide]
  obtain ⟨m1, go, e, K⟩ := g7 (a := 0) (b := 10) (c := 120) (d := 0) K false (by decide) (by decide) (by decide) (by decide) (by decide)
  have K : zK 4 12 1 0 (fun _ => 14) (fun _ => -1) (fun _ => false) (fun _ => false) qj_sx23 qj_sy24 qj_so25 qj_co26 qj_te27 qj_lt28 go (fun _ _ => 0) (fun _ _ => 0) 0 9999 (fun _ _ => 0) (fun _ => 0) m1 := K
  refine zgoA e (by decide) ?_
  rw [show (1 - 1 / 12 * 12 : Int32) = 1 from by decide]
  rw [show (1 - 1 / 2 * 2 : Int32) = 1 from by decide]
  obtain ⟨m1, go, e, K⟩ := g7 (a := 1) (b := 10) (c := 120) (d := 1) K true (by decide) (by decide) (by decide) (by decide) (by decide)
  have K : zK 4 12 2 0 (fun _ => 14) (fun _ => -1) (fun _ => false) (fun _ => false) qj_sx23 qj_sy24 qj_so29 qj_co30 qj_te31 qj_lt32 go (fun _ _ => 0) (fun _ _ => 0) 0 9999 (fun _ _ => 0) (fun _ => 0) m1 := K
  refine zgoA e (by decide) ?_
  rw [show (2 - 2 / 12 * 12 : Int32) = 2 from by decide]
  rw [show (2 - 2 / 2 * 2 : Int32) = 0 from by decide]
  obtain ⟨m1, go, e, K⟩ := g7 (a := 2) (b := 10) (c := 120) (d := 0) K false (by decide) (by decide) (by decide) (by decide) (by decide)
  have K : zK 4 12 3 0 (fun _ => 14) (fun _ => -1) (fun _ => false) (fun _ => false) qj_sx23 qj_sy24 qj_so33 qj_co34 qj_te35 qj_lt36 go (fun _ _ => 0) (fun _ _ => 0) 0 9999 (fun _ _ => 0) (fun _ => 0) m1 := K
  refine zgoA e (by decide) ?_
  rw [show (3 - 3 / 12 * 12 : Int32) = 3 from by decide]
  rw [show (3 - 3 / 2 * 2 : Int32) = 1 from by decide]
  obtain ⟨m1, go, e, K⟩ := g7 (a := 3) (b := 10) (c := 120) (d := 1) K true (by decide) (by decide) (by decide) (by decide) (by decide)
  have K : zK 4 12 4 0 (fun _ => 14) (fun _ => -1) (fun _ => false) (fun _ => false) qj_sx23 qj_sy24 qj_so37 qj_co38 qj_te39 qj_lt40 go (fun _ _ => 0) (fun _ _ => 0) 0 9999 (fun _ _ => 0) (fun _ => 0) m1 := K
  refine zgoA e (by decide) ?_
  rw [show (4 - 4 / 12 * 12 : Int32) = 4 from by decide]
  rw [show (4 - 4 / 2 * 2 : Int32) = 0 from by decide]
  obtain ⟨m1, go, e, K⟩ := g7 (a := 4) (b := 10) (c := 120) (d := 0) K false (by decide) (by decide) (by decide) (by decide) (by decide)
  have K : zK 4 12 5 0 (fun _ => 14) (fun _ => -1) (fun _ => false) (fun _ => false) qj_sx23 qj_sy24 qj_so41 qj_co42 qj_te43 qj_lt44 go (fun _ _ => 0) (fun _ _ => 0) 0 9999 (fun _ _ => 0) (fun _ => 0) m1 := K
  refine zgoA e (by decide) ?_
  rw [show (5 - 5 / 12 * 12 : Int32) = 5 from by decide]
  rw [show (5 - 5 / 2 * 2 : Int32) = 1 from by decide]
  obtain ⟨m1, go, e, K⟩ := g7 (a := 5) (b := 10) (c := 120) (d := 1) K true (by decide) (by decide) (by decide) (by decide) (by decide)
  have K : zK 4 12 6 0 (fun _ => 14) (fun _ => -1) (fun _ => false) (fun _ => false) qj_sx23 qj_sy24 qj_so45 qj_co46 qj_te47 qj_lt48 go (fun _ _ => 0) (fun _ _ => 0) 0 9999 (fun _ _ => 0) (fun _ => 0) m1 := K
  refine zgoA e (by decide) ?_
  rw [show (6 - 6 / 12 * 12 : Int32) = 6 from by decide]
  rw [show (6 - 6 / 2 * 2 : Int32) = 0 from by decide]
  obtain ⟨m1, go, e, K⟩ := g7 (a := 6) (b := 10) (c := 120) (d := 0) K false (by decide) (by decide) (by decide) (by decide) (by decide)
  have K : zK 4 12 7 0 (fun _ => 14) (fun _ => -1) (fun _ => false) (fun _ => false) qj_sx23 qj_sy24 qj_so49 qj_co50 qj_te51 qj_lt52 go (fun _ _ => 0) (fun _ _ => 0) 0 9999 (fun _ _ => 0) (fun _ => 0) m1 := K
  refine zgoA e (by decide) ?_
  rw [show (7 - 7 / 12 * 12 : Int32) = 7 from by decide]
  rw [show (7 - 7 / 2 * 2 : Int32) = 1 from by decide]
  obtain ⟨m1, go, e, K⟩ := g7 (a := 7) (b := 10) (c := 120) (d := 1) K true (by decide) (by decide) (by decide) (by decide) (by decide)
  have K : zK 4 12 8 0 (fun _ => 14) (fun _ => -1) (fun _ => false) (fun _ => false) qj_sx23 qj_sy24 qj_so53 qj_co54 qj_te55 qj_lt56 go (fun _ _ => 0) (fun _ _ => 0) 0 9999 (fun _ _ => 0) (fun _ => 0) m1 := K
  refine zgoA e (by decide) ?_
  rw [show (8 - 8 / 12 * 12 : Int32) = 8 from by decide]
  rw [show (8 - 8 / 2 * 2 : Int32) = 0 from by decide]
  obtain ⟨m1, go, e, K⟩ := g7 (a := 8) (b := 10) (c := 120) (d := 0) K false (by decide) (by decide) (by decide) (by decide) (by decide)
  have K : zK 4 12 9 0 (fun _ => 14) (fun _ => -1) (fun _ => false) (fun _ => false) qj_sx23 qj_sy24 qj_so57 qj_co58 qj_te59 qj_lt60 go (fun _ _ => 0) (fun _ _ => 0) 0 9999 (fun _ _ => 0) (fun _ => 0) m1 := K
  refine zgoA e (by decide) ?_
  rw [show (9 - 9 / 12 * 12 : Int32) = 9 from by decide]
  rw [show (9 - 9 / 2 * 2 : Int32) = 1 from by decide]
  obtain ⟨m1, go, e, K⟩ := g7 (a := 9) (b := 10) (c := 120) (d := 1) K true (by decide) (by decide) (by decide) (by decide) (by decide)
  have K : zK 4 12 10 0 (fun _ => 14) (fun _ => -1) (fun _ => false) (fun _ => false) qj_sx23 qj_sy24 qj_so61 qj_co62 qj_te63 qj_lt64 go (fun _ _ => 0) (fun _ _ => 0) 0 9999 (fun _ _ => 0) (fun _ => 0) m1 := K
  refine zgoA e (by decide) ?_
  rw [show (10 - 10 / 12 * 12 : Int32) = 10 from by decide]
  rw [show (10 - 10 / 2 * 2 : Int32) = 0 from by decide]
  obtain ⟨m1, go, e, K⟩ := g7 (a := 10) (b := 10) (c := 120) (d := 0) K false (by decide) (by decide) (by decide) (by decide) (by decide)
  have K : zK 4 12 11 0 (fun _ => 14) (fun _ => -1) (fun _ => false) (fun _ => false) qj_sx23 qj_sy24 qj_so65 qj_co66 qj_te67 qj_lt68 go (fun _ _ => 0) (fun _ _ => 0) 0 9999 (fun _ _ => 0) (fun _ => 0) m1 := K
  refine zgoA e (by decide) ?_
  rw [show (11 - 11 / 12 * 12 : Int32) = 11 from by decide]
  rw [show (11 - 11 / 2 * 2 : Int32) = 1 from by decide]
  obtain ⟨m1, go, e, K⟩ := g7 (a := 11) (b := 10) (c := 120) (d := 1) K true (by decide) (by decide) (by decide) (by decide) (by decide)
  have K : zK 4 12 12 0 (fun _ => 14) (fun _ => -1) (fun _ => false) (fun _ => false) qj_sx23 qj_sy24 qj_so69 qj_co70 qj_te71 qj_lt72 go (fun _ _ => 0) (fun _ _ => 0) 0 9999 (fun _ _ => 0) (fun _ => 0) m1 := K
  refine zgoA e (by decide) ?_
  rw [show (12 - 12 / 12 * 12 : Int32) = 0 from by decide]
  rw [show (12 - 12 / 2 * 2 : Int32) = 0 from by decide]
  obtain ⟨m1, e, K⟩ := r7_73 (a := 0) (b := 10) (c := 120) (d := 0) K (by decide) (by decide +kernel)
  refine zgoA e rfl ?_
  exact zgoE ⟨_, K⟩
def qj_cap73 : Nat → Nat → Int := zCap (fun _ _ => 0) 0 0 600
def qj_cap74 : Nat → Nat → Int := zCap qj_cap73 0 1 600
def qj_cap75 : Nat → Nat → Int := zCap qj_cap74 1 1 600
def qj_cap76 : Nat → Nat → Int := zCap qj_cap75 1 0 600
theorem pL_judges108 {go : Nat → Nat → Nat} {m : dM} (K : zK 4 12 12 0 (fun _ => 14) (fun _ => -1) (fun _ => false) (fun _ => false) qj_sx23 qj_sy24 qj_so69 qj_co70 qj_te71 qj_lt72 go (fun _ _ => 0) (fun _ _ => 0) 0 9999 (fun _ _ => 0) (fun _ => 0) m) : ∃ r, fL_judges108 m = some r ∧ (∃ go, zK 4 12 12 0 (fun _ => 14) (fun _ => -1) (fun _ => false) (fun _ => false) qj_sx23 qj_sy24 qj_so69 qj_co70 qj_te71 qj_lt72 go (fun _ _ => 0) (fun _ _ => 0) 650 9999 qj_cap76 (fun _ => 0) r) := by
  unfold fL_judges108
  refine zgoP (K_lasts K) (by decide +kernel) ?_
  obtain ⟨m1, e, K⟩ := K_judge (a := 0) (c := 0) (v := 600) K (by decide) (by decide) (by decide)
  have K : zK 4 12 12 0 (fun _ => 14) (fun _ => -1) (fun _ => false) (fun _ => false) qj_sx23 qj_sy24 qj_so69 qj_co70 qj_te71 qj_lt72 go (fun _ _ => 0) (fun _ _ => 0) 0 9999 qj_cap73 (fun _ => 0) m1 := K
  refine zgoI e (by decide +kernel) ?_
  obtain ⟨m1, e, K⟩ := g16 (a := 650) (b := 9999) (c := 0) (d := 0) K (by decide)
  have K : zK 4 12 12 0 (fun _ => 14) (fun _ => -1) (fun _ => false) (fun _ => false) qj_sx23 qj_sy24 qj_so69 qj_co70 qj_te71 qj_lt72 go (fun _ _ => 0) (fun _ _ => 0) 650 9999 qj_cap73 (fun _ => 0) m1 := K
  refine zgoA e rfl ?_
  obtain ⟨m1, e, K⟩ := K_judge (a := 0) (c := 1) (v := 600) K (by decide) (by decide) (by decide)
  have K : zK 4 12 12 0 (fun _ => 14) (fun _ => -1) (fun _ => false) (fun _ => false) qj_sx23 qj_sy24 qj_so69 qj_co70 qj_te71 qj_lt72 go (fun _ _ => 0) (fun _ _ => 0) 650 9999 qj_cap74 (fun _ => 0) m1 := K
  refine zgoI e (by decide +kernel) ?_
  obtain ⟨m1, e, K⟩ := K_judge (a := 1) (c := 1) (v := 600) K (by decide) (by decide) (by decide)
  have K : zK 4 12 12 0 (fun _ => 14) (fun _ => -1) (fun _ => false) (fun _ => false) qj_sx23 qj_sy24 qj_so69 qj_co70 qj_te71 qj_lt72 go (fun _ _ => 0) (fun _ _ => 0) 650 9999 qj_cap75 (fun _ => 0) m1 := K
  refine zgoI e (by decide +kernel) ?_
  obtain ⟨m1, e, K⟩ := K_judge (a := 1) (c := 0) (v := 600) K (by decide) (by decide) (by decide)
  have K : zK 4 12 12 0 (fun _ => 14) (fun _ => -1) (fun _ => false) (fun _ => false) qj_sx23 qj_sy24 qj_so69 qj_co70 qj_te71 qj_lt72 go (fun _ _ => 0) (fun _ _ => 0) 650 9999 qj_cap76 (fun _ => 0) m1 := K
  refine zgoI e (by decide +kernel) ?_
  have e := K_rankedv (r := 0) (v := 1) K (by decide) (by decide) (by decide +kernel)
  refine zgoI e (by decide) ?_
  have e := K_rankedv (r := 1) (v := 0) K (by decide) (by decide) (by decide +kernel)
  refine zgoI e (by decide) ?_
  have e := K_rankedv (r := 2) (v := 2) K (by decide) (by decide) (by decide +kernel)
  refine zgoI e (by decide) ?_
  exact zgoE ⟨_, K⟩
def qj_cap77 : Nat → Nat → Int := zCap qj_cap76 0 2 5
def qj_cap78 : Nat → Nat → Int := zCap qj_cap77 0 3 2
def qj_pen79 : Nat → Int := zUp (fun _ => 0) 0 1
def qj_pen80 : Nat → Int := zUp qj_pen79 1 1000
theorem pL_judges223 {go : Nat → Nat → Nat} {m : dM} (K : zK 4 12 12 0 (fun _ => 14) (fun _ => -1) (fun _ => false) (fun _ => false) qj_sx23 qj_sy24 qj_so69 qj_co70 qj_te71 qj_lt72 go (fun _ _ => 0) (fun _ _ => 0) 650 9999 qj_cap76 (fun _ => 0) m) : ∃ r, fL_judges223 m = some r ∧ (∃ go, zK 4 12 12 0 (fun _ => 14) (fun _ => -1) (fun _ => false) (fun _ => false) qj_sx23 qj_sy24 qj_so69 qj_co70 qj_te71 qj_lt72 go (fun _ _ => 0) (fun _ _ => 0) 0 599 qj_cap78 qj_pen80 r) := by
  unfold fL_judges223
  have e := K_rankedv (r := 5) (v := 5) K (by decide) (by decide) (by decide +kernel)
  refine zgoI e (by decide) ?_
  obtain ⟨m1, e, K⟩ := g16 (a := 0) (b := 599) (c := 0) (d := 0) K (by decide)
  have K : zK 4 12 12 0 (fun _ => 14) (fun _ => -1) (fun _ => false) (fun _ => false) qj_sx23 qj_sy24 qj_so69 qj_co70 qj_te71 qj_lt72 go (fun _ _ => 0) (fun _ _ => 0) 0 599 qj_cap76 (fun _ => 0) m1 := K
  refine zgoA e rfl ?_
  obtain ⟨m1, e, K⟩ := K_judge (a := 0) (c := 2) (v := 5) K (by decide) (by decide) (by decide)
  have K : zK 4 12 12 0 (fun _ => 14) (fun _ => -1) (fun _ => false) (fun _ => false) qj_sx23 qj_sy24 qj_so69 qj_co70 qj_te71 qj_lt72 go (fun _ _ => 0) (fun _ _ => 0) 0 599 qj_cap77 (fun _ => 0) m1 := K
  refine zgoI e (by decide +kernel) ?_
  obtain ⟨m1, e, K⟩ := K_judge (a := 0) (c := 3) (v := 2) K (by decide) (by decide) (by decide)
  have K : zK 4 12 12 0 (fun _ => 14) (fun _ => -1) (fun _ => false) (fun _ => false) qj_sx23 qj_sy24 qj_so69 qj_co70 qj_te71 qj_lt72 go (fun _ _ => 0) (fun _ _ => 0) 0 599 qj_cap78 (fun _ => 0) m1 := K
  refine zgoI e (by decide +kernel) ?_
  have e := K_rankedv (r := 0) (v := 0) K (by decide) (by decide) (by decide +kernel)
  refine zgoI e (by decide) ?_
  obtain ⟨m1, e, K⟩ := K_penalty (a := 0) (v := 1) K (by decide) (by decide)
  have K : zK 4 12 12 0 (fun _ => 14) (fun _ => -1) (fun _ => false) (fun _ => false) qj_sx23 qj_sy24 qj_so69 qj_co70 qj_te71 qj_lt72 go (fun _ _ => 0) (fun _ _ => 0) 0 599 qj_cap78 qj_pen79 m1 := K
  refine zgoI e (by decide +kernel) ?_
  have e := K_rankedv (r := 0) (v := 1) K (by decide) (by decide) (by decide +kernel)
  refine zgoI e (by decide) ?_
  obtain ⟨m1, e, K⟩ := K_penalty (a := 1) (v := 1000) K (by decide) (by decide)
  have K : zK 4 12 12 0 (fun _ => 14) (fun _ => -1) (fun _ => false) (fun _ => false) qj_sx23 qj_sy24 qj_so69 qj_co70 qj_te71 qj_lt72 go (fun _ _ => 0) (fun _ _ => 0) 0 599 qj_cap78 qj_pen80 m1 := K
  refine zgoI e (by decide +kernel) ?_
  have e := K_rankedv (r := 5) (v := 5) K (by decide) (by decide) (by decide +kernel)
  refine zgoI e (by decide) ?_
  exact zgoE ⟨_, K⟩
def qj_cap81 : Nat → Nat → Int := zCap qj_cap78 3 3 5
def qj_pen82 : Nat → Int := zUp qj_pen80 0 0
def qj_pen83 : Nat → Int := zUp qj_pen82 0 0
theorem pL_judges324 {go : Nat → Nat → Nat} {m : dM} (K : zK 4 12 12 0 (fun _ => 14) (fun _ => -1) (fun _ => false) (fun _ => false) qj_sx23 qj_sy24 qj_so69 qj_co70 qj_te71 qj_lt72 go (fun _ _ => 0) (fun _ _ => 0) 0 599 qj_cap78 qj_pen80 m) : ∃ r, fL_judges324 m = some r ∧ (∃ go, zK 4 12 12 0 (fun _ => 14) (fun _ => -1) (fun _ => false) (fun _ => false) qj_sx23 qj_sy24 qj_so69 qj_co70 qj_te71 qj_lt72 go (fun _ _ => 0) (fun _ _ => 0) 9999 9999 qj_cap81 qj_pen83 r) := by
  unfold fL_judges324
  have e := K_rankedv (r := 1) (v := 1) K (by decide) (by decide) (by decide +kernel)
  refine zgoI e (by decide) ?_
  obtain ⟨m1, e, K⟩ := K_judge (a := 3) (c := 3) (v := 5) K (by decide) (by decide) (by decide)
  have K : zK 4 12 12 0 (fun _ => 14) (fun _ => -1) (fun _ => false) (fun _ => false) qj_sx23 qj_sy24 qj_so69 qj_co70 qj_te71 qj_lt72 go (fun _ _ => 0) (fun _ _ => 0) 0 599 qj_cap81 qj_pen80 m1 := K
  refine zgoI e (by decide +kernel) ?_
  have e := K_rankedv (r := 2) (v := 3) K (by decide) (by decide) (by decide +kernel)
  refine zgoI e (by decide) ?_
  have e := K_rankedv (r := 3) (v := 2) K (by decide) (by decide) (by decide +kernel)
  refine zgoI e (by decide) ?_
  obtain ⟨m1, e, K⟩ := g16 (a := 600) (b := 600) (c := 0) (d := 0) K (by decide)
  have K : zK 4 12 12 0 (fun _ => 14) (fun _ => -1) (fun _ => false) (fun _ => false) qj_sx23 qj_sy24 qj_so69 qj_co70 qj_te71 qj_lt72 go (fun _ _ => 0) (fun _ _ => 0) 600 600 qj_cap81 qj_pen80 m1 := K
  refine zgoA e rfl ?_
  obtain ⟨m1, e, K⟩ := K_penalty (a := 0) (v := 0) K (by decide) (by decide)
  have K : zK 4 12 12 0 (fun _ => 14) (fun _ => -1) (fun _ => false) (fun _ => false) qj_sx23 qj_sy24 qj_so69 qj_co70 qj_te71 qj_lt72 go (fun _ _ => 0) (fun _ _ => 0) 600 600 qj_cap81 qj_pen82 m1 := K
  refine zgoI e (by decide +kernel) ?_
  obtain ⟨m1, e, K⟩ := g16 (a := 9999) (b := 9999) (c := 0) (d := 0) K (by decide)
  have K : zK 4 12 12 0 (fun _ => 14) (fun _ => -1) (fun _ => false) (fun _ => false) qj_sx23 qj_sy24 qj_so69 qj_co70 qj_te71 qj_lt72 go (fun _ _ => 0) (fun _ _ => 0) 9999 9999 qj_cap81 qj_pen82 m1 := K
  refine zgoA e rfl ?_
  obtain ⟨m1, e, K⟩ := K_penalty (a := 0) (v := 0) K (by decide) (by decide)
  have K : zK 4 12 12 0 (fun _ => 14) (fun _ => -1) (fun _ => false) (fun _ => false) qj_sx23 qj_sy24 qj_so69 qj_co70 qj_te71 qj_lt72 go (fun _ _ => 0) (fun _ _ => 0) 9999 9999 qj_cap81 qj_pen83 m1 := K
  refine zgoI e (by decide +kernel) ?_
  refine zgoI (K_rehearse (a := 50) (b := 27) (by decide)) (by decide +kernel) ?_
  exact zgoE ⟨_, K⟩
theorem pL_judges437 {go : Nat → Nat → Nat} {m : dM} (K : zK 4 12 12 0 (fun _ => 14) (fun _ => -1) (fun _ => false) (fun _ => false) qj_sx23 qj_sy24 qj_so69 qj_co70 qj_te71 qj_lt72 go (fun _ _ => 0) (fun _ _ => 0) 9999 9999 qj_cap81 qj_pen83 m) : ∃ r, fL_judges437 m = some r ∧ (∃ go, zK 4 12 12 0 (fun _ => 14) (fun _ => -1) (fun _ => false) (fun _ => false) qj_sx23 qj_sy24 qj_so69 qj_co70 qj_te71 qj_lt72 go (fun _ _ => 0) (fun _ _ => 0) 9999 9999 qj_cap81 qj_pen83 r) := by
  unfold fL_judges437
  refine zgoI (K_rehearse (a := 51) (b := 27) (by decide)) (by decide +kernel) ?_
  refine zgoI (K_rehearse (a := 100) (b := 0) (by decide)) (by decide +kernel) ?_
  refine zgoI (K_rehearse (a := 30) (b := 28) (by decide)) (by decide +kernel) ?_
  refine zgoI (K_rehearse (a := 31) (b := 31) (by decide)) (by decide +kernel) ?_
  refine zgoI (K_rehearse (a := 20) (b := 32) (by decide)) (by decide +kernel) ?_
  refine zgoI (K_rehearse (a := 21) (b := 35) (by decide)) (by decide +kernel) ?_
  refine zgoI (K_rehearse (a := 41) (b := 35) (by decide)) (by decide +kernel) ?_
  refine zgoI (K_rehearse (a := 1) (b := 36) (by decide)) (by decide +kernel) ?_
  refine zgoI (K_rehearse (a := 9999) (b := 60) (by decide)) (by decide +kernel) ?_
  exact zgoE ⟨_, K⟩
theorem judges_ok : ∃ r, fL_judges dI = some r := by
  suffices q : ∃ r, fL_judges dI = some r ∧ True by obtain ⟨r, h, -⟩ := q; exact ⟨r, h⟩
  have K := K_dI
  unfold fL_judges
  obtain ⟨m1, e, go, K⟩ := pL_jdA K
  refine zgoF e ?_
  obtain ⟨m1, e, go, K⟩ := pL_jdB K
  refine zgoF e ?_
  obtain ⟨m1, e, go, K⟩ := pL_judges108 K
  refine zgoF e ?_
  obtain ⟨m1, e, go, K⟩ := pL_judges223 K
  refine zgoF e ?_
  obtain ⟨m1, e, go, K⟩ := pL_judges324 K
  refine zgoF e ?_
  obtain ⟨m1, e, go, K⟩ := pL_judges437 K
  refine zgoF e ?_
  refine zgoI (K_rehearse (a := 9999) (b := 0) (by decide)) (by decide +kernel) ?_
  obtain ⟨m1, e, K⟩ := K_agrees K
  refine zgoG e (by decide) ?_
  obtain ⟨m1, e, K⟩ := refuses_ok (zc := 10) K (fun _ => by decide +kernel)
  refine zgoF e ?_
  exact zgoE trivial
