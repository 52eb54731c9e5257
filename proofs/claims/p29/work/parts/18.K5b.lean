def qc_sx1 : Nat → Nat → Int := zAdd 0 (zLn 0 20 2) (fun _ _ => 0)
def qc_sy2 : Nat → Nat → Int := zAdd 0 (zLn 0 0 2) (fun _ _ => 0)
def qc_sx3 : Nat → Nat → Int := zAdd 1 (zLn 20 0 2) qc_sx1
def qc_sy4 : Nat → Nat → Int := zAdd 1 (zLn 20 20 2) qc_sy2
def qc_sx5 : Nat → Nat → Int := zAdd 2 (zLn 0 9 2) qc_sx3
def qc_sy6 : Nat → Nat → Int := zAdd 2 (zLn 0 0 2) qc_sy4
def qc_sx7 : Nat → Nat → Int := zAdd 3 (zLn 40 39 2) qc_sx5
def qc_sy8 : Nat → Nat → Int := zAdd 3 (zLn 140 141 2) qc_sy6
def qc_so9 : Nat → Nat := zUp (fun _ => 0) 0 0
def qc_co10 : Nat → Int := zUp (fun _ => 0) 0 8
def qc_te11 : Nat → Int := zUp (fun _ => 0) 0 60
def qc_lt12 : Nat → Bool := zUp (fun _ => false) 0 false
def qc_go13 : Nat → Nat → Nat := fun i d => ((([[0, 1]] : List (List Nat)).getD i []).getD d 0)
def qc_so14 : Nat → Nat := zUp qc_so9 1 1
def qc_co15 : Nat → Int := zUp qc_co10 1 1
def qc_te16 : Nat → Int := zUp qc_te11 1 60
def qc_lt17 : Nat → Bool := zUp qc_lt12 1 false
def qc_go18 : Nat → Nat → Nat := fun i d => ((([[0, 1], [0, 1]] : List (List Nat)).getD i []).getD d 0)
def qc_le19 : Nat → Int := zUp (fun _ => 14) 0 40
theorem pL_crosses8 {m : dM} (K : zK 4 0 0 0 (fun _ => 14) (fun _ => -1) (fun _ => false) (fun _ => false) (fun _ _ => 0) (fun _ _ => 0) (fun _ => 0) (fun _ => 0) (fun _ => 0) (fun _ => false) (fun _ _ => 0) (fun _ _ => 0) (fun _ _ => 0) 0 9999 (fun _ _ => 0) (fun _ => 0) m) : ∃ r, fL_crosses8 m = some r ∧ zK 2 4 2 0 qc_le19 (fun _ => -1) (fun _ => false) (fun _ => false) qc_sx7 qc_sy8 qc_so14 qc_co15 qc_te16 qc_lt17 qc_go18 (fun _ _ => 0) (fun _ _ => 0) 0 9999 (fun _ _ => 0) (fun _ => 0) r := by
  unfold fL_crosses8
  obtain ⟨m1, e, K⟩ := g0 (a := 2) (b := 0) (c := 0) (d := 0) K rfl (by decide) (by decide)
  have K : zK 2 0 0 0 (fun _ => 14) (fun _ => -1) (fun _ => false) (fun _ => false) (fun _ _ => 0) (fun _ _ => 0) (fun _ => 0) (fun _ => 0) (fun _ => 0) (fun _ => false) (fun _ _ => 0) (fun _ _ => 0) (fun _ _ => 0) 0 9999 (fun _ _ => 0) (fun _ => 0) m1 := K
  refine zgoA e rfl ?_
  obtain ⟨m1, e, K⟩ := K_line (a := 0) (b := 0) (c := 20) (d := 0) K (by decide) (by decide +kernel) (by decide +kernel) (by decide)
  have K : zK 2 1 0 0 (fun _ => 14) (fun _ => -1) (fun _ => false) (fun _ => false) qc_sx1 qc_sy2 (fun _ => 0) (fun _ => 0) (fun _ => 0) (fun _ => false) (fun _ _ => 0) (fun _ _ => 0) (fun _ _ => 0) 0 9999 (fun _ _ => 0) (fun _ => 0) m1 := K
  refine zgoI e (by decide) ?_
  obtain ⟨m1, e, K⟩ := K_line (a := 20) (b := 20) (c := 0) (d := 20) K (by decide) (by decide +kernel) (by decide +kernel) (by decide)
  have K : zK 2 2 0 0 (fun _ => 14) (fun _ => -1) (fun _ => false) (fun _ => false) qc_sx3 qc_sy4 (fun _ => 0) (fun _ => 0) (fun _ => 0) (fun _ => false) (fun _ _ => 0) (fun _ _ => 0) (fun _ _ => 0) 0 9999 (fun _ _ => 0) (fun _ => 0) m1 := K
  refine zgoI e (by decide) ?_
  obtain ⟨m1, e, K⟩ := K_line (a := 0) (b := 0) (c := 9) (d := 0) K (by decide) (by decide +kernel) (by decide +kernel) (by decide)
  have K : zK 2 3 0 0 (fun _ => 14) (fun _ => -1) (fun _ => false) (fun _ => false) qc_sx5 qc_sy6 (fun _ => 0) (fun _ => 0) (fun _ => 0) (fun _ => false) (fun _ _ => 0) (fun _ _ => 0) (fun _ _ => 0) 0 9999 (fun _ _ => 0) (fun _ => 0) m1 := K
  refine zgoI e (by decide) ?_
  obtain ⟨m1, e, K⟩ := K_line (a := 40) (b := 140) (c := 39) (d := 141) K (by decide) (by decide +kernel) (by decide +kernel) (by decide)
  have K : zK 2 4 0 0 (fun _ => 14) (fun _ => -1) (fun _ => false) (fun _ => false) qc_sx7 qc_sy8 (fun _ => 0) (fun _ => 0) (fun _ => 0) (fun _ => false) (fun _ _ => 0) (fun _ _ => 0) (fun _ _ => 0) 0 9999 (fun _ _ => 0) (fun _ => 0) m1 := K
  refine zgoI e (by decide) ?_
  obtain ⟨m1, go', e, K⟩ := K_part (a := 0) (c := 8) (t := 60) K false (by decide) (by decide) (by decide) (by decide)
  have K : zK 2 4 1 0 (fun _ => 14) (fun _ => -1) (fun _ => false) (fun _ => false) qc_sx7 qc_sy8 qc_so9 qc_co10 qc_te11 qc_lt12 go' (fun _ _ => 0) (fun _ _ => 0) 0 9999 (fun _ _ => 0) (fun _ => 0) m1 := K
  have K : zK 2 4 1 0 (fun _ => 14) (fun _ => -1) (fun _ => false) (fun _ => false) qc_sx7 qc_sy8 qc_so9 qc_co10 qc_te11 qc_lt12 qc_go13 (fun _ _ => 0) (fun _ _ => 0) 0 9999 (fun _ _ => 0) (fun _ => 0) m1 := K_goB K (Or.inl rfl) (by decide +kernel)
  refine zgoI e (by decide) ?_
  obtain ⟨m1, go', e, K⟩ := K_part (a := 1) (c := 1) (t := 60) K false (by decide) (by decide) (by decide) (by decide)
  have K : zK 2 4 2 0 (fun _ => 14) (fun _ => -1) (fun _ => false) (fun _ => false) qc_sx7 qc_sy8 qc_so14 qc_co15 qc_te16 qc_lt17 go' (fun _ _ => 0) (fun _ _ => 0) 0 9999 (fun _ _ => 0) (fun _ => 0) m1 := K
  have K : zK 2 4 2 0 (fun _ => 14) (fun _ => -1) (fun _ => false) (fun _ => false) qc_sx7 qc_sy8 qc_so14 qc_co15 qc_te16 qc_lt17 qc_go18 (fun _ _ => 0) (fun _ _ => 0) 0 9999 (fun _ _ => 0) (fun _ => 0) m1 := K_goB K (Or.inl rfl) (by decide +kernel)
  refine zgoI e (by decide) ?_
  obtain ⟨m1, e, K⟩ := fault_ok (k := 1) (n := 1) (qq := (some (1, 0))) (c := (1)) (d := (0)) (e := (0)) (f := (-1)) K (by decide) rfl (by decide +kernel) (by decide) (by decide) (by decide) (by decide)
  refine zgoF e ?_
  obtain ⟨m1, e, K⟩ := K_legs (a := 0) (b := 40) K (by decide) (by decide)
  have K : zK 2 4 2 0 qc_le19 (fun _ => -1) (fun _ => false) (fun _ => false) qc_sx7 qc_sy8 qc_so14 qc_co15 qc_te16 qc_lt17 qc_go18 (fun _ _ => 0) (fun _ _ => 0) 0 9999 (fun _ _ => 0) (fun _ => 0) m1 := K
  refine zgoI e (by decide +kernel) ?_
  exact zgoE K
def qc_le20 : Nat → Int := zUp qc_le19 1 40
def qc_il21 : Nat → Bool := zUp (fun _ => false) 1 true
def qc_il22 : Nat → Bool := zUp qc_il21 1 false
def qc_so23 : Nat → Nat := zUp qc_so14 1 1
def qc_co24 : Nat → Int := zUp qc_co15 1 1
def qc_te25 : Nat → Int := zUp qc_te16 1 60
def qc_lt26 : Nat → Bool := zUp qc_lt17 1 true
def qc_go27 : Nat → Nat → Nat := fun i d => ((([[0, 1], [1, 0]] : List (List Nat)).getD i []).getD d 0)
theorem pL_crosses130 {m : dM} (K : zK 2 4 2 0 qc_le19 (fun _ => -1) (fun _ => false) (fun _ => false) qc_sx7 qc_sy8 qc_so14 qc_co15 qc_te16 qc_lt17 qc_go18 (fun _ _ => 0) (fun _ _ => 0) 0 9999 (fun _ _ => 0) (fun _ => 0) m) : ∃ r, fL_crosses130 m = some r ∧ zK 2 4 2 0 qc_le20 (fun _ => -1) qc_il22 (fun _ => false) qc_sx7 qc_sy8 qc_so23 qc_co24 qc_te25 qc_lt26 qc_go27 (fun _ _ => 0) (fun _ _ => 0) 0 9999 (fun _ _ => 0) (fun _ => 0) r := by
  unfold fL_crosses130
  obtain ⟨m1, e, K⟩ := fault_ok (k := 1) (n := 1) (qq := (some (1, 1))) (c := (1)) (d := (0)) (e := (1)) (f := (-1)) K (by decide) rfl (by decide +kernel) (by decide) (by decide) (by decide) (by decide)
  refine zgoF e ?_
  obtain ⟨m1, e, K⟩ := K_legs (a := 1) (b := 40) K (by decide) (by decide)
  have K : zK 2 4 2 0 qc_le20 (fun _ => -1) (fun _ => false) (fun _ => false) qc_sx7 qc_sy8 qc_so14 qc_co15 qc_te16 qc_lt17 qc_go18 (fun _ _ => 0) (fun _ _ => 0) 0 9999 (fun _ _ => 0) (fun _ => 0) m1 := K
  refine zgoI e (by decide +kernel) ?_
  obtain ⟨m1, e, K⟩ := fault_ok (k := 1) (n := 1) (qq := (some (1, 201))) (c := (1)) (d := (2)) (e := (0)) (f := (1)) K (by decide) rfl (by decide +kernel) (by decide) (by decide) (by decide) (by decide)
  refine zgoF e ?_
  obtain ⟨m1, e, K⟩ := g2 (a := 1) (b := 1) (c := 0) (d := 0) K true (by decide) (by decide)
  have K : zK 2 4 2 0 qc_le20 (fun _ => -1) qc_il21 (fun _ => false) qc_sx7 qc_sy8 qc_so14 qc_co15 qc_te16 qc_lt17 qc_go18 (fun _ _ => 0) (fun _ _ => 0) 0 9999 (fun _ _ => 0) (fun _ => 0) m1 := K
  refine zgoA e (by decide +kernel) ?_
  obtain ⟨m1, e, K⟩ := fault_ok (k := 1) (n := 1) (qq := none) (c := (-1)) (d := (-1)) (e := (-1)) (f := (-1)) K (by decide) rfl (by decide +kernel) (by decide) (by decide) (by decide) (by decide)
  refine zgoF e ?_
  obtain ⟨m1, e, K⟩ := K_ill (a := 1) K false (by decide)
  have K : zK 2 4 2 0 qc_le20 (fun _ => -1) qc_il22 (fun _ => false) qc_sx7 qc_sy8 qc_so14 qc_co15 qc_te16 qc_lt17 qc_go18 (fun _ _ => 0) (fun _ _ => 0) 0 9999 (fun _ _ => 0) (fun _ => 0) m1 := K
  refine zgoN e (by decide +kernel) ?_
  obtain ⟨m1, go', e, K⟩ := g8 (a := 1) (b := 1) (c := 1) (d := 60) K (by decide) (by decide) (by decide) (by decide)
  have K : zK 2 4 2 0 qc_le20 (fun _ => -1) qc_il22 (fun _ => false) qc_sx7 qc_sy8 qc_so23 qc_co24 qc_te25 qc_lt26 go' (fun _ _ => 0) (fun _ _ => 0) 0 9999 (fun _ _ => 0) (fun _ => 0) m1 := K
  have K : zK 2 4 2 0 qc_le20 (fun _ => -1) qc_il22 (fun _ => false) qc_sx7 qc_sy8 qc_so23 qc_co24 qc_te25 qc_lt26 qc_go27 (fun _ _ => 0) (fun _ _ => 0) 0 9999 (fun _ _ => 0) (fun _ => 0) m1 := K_goB K (Or.inl rfl) (by decide +kernel)
  refine zgoA e rfl ?_
  have e := K_place (a := 1) (b := 0) K (by decide)
  refine zgoI e (by decide +kernel) ?_
  have e := K_walking (a := 1) K (by decide)
  refine zgoJ e (by decide +kernel) ?_
  exact zgoE K
def qc_so28 : Nat → Nat := zUp qc_so23 2 2
def qc_co29 : Nat → Int := zUp qc_co24 2 2
def qc_te30 : Nat → Int := zUp qc_te25 2 240
def qc_lt31 : Nat → Bool := zUp qc_lt26 2 false
def qc_go32 : Nat → Nat → Nat := fun i d => ((([[0, 1], [1, 0], [0, 1]] : List (List Nat)).getD i []).getD d 0)
theorem pL_crosses239 {m : dM} (K : zK 2 4 2 0 qc_le20 (fun _ => -1) qc_il22 (fun _ => false) qc_sx7 qc_sy8 qc_so23 qc_co24 qc_te25 qc_lt26 qc_go27 (fun _ _ => 0) (fun _ _ => 0) 0 9999 (fun _ _ => 0) (fun _ => 0) m) : ∃ r, fL_crosses239 m = some r ∧ zK 2 4 3 0 qc_le20 (fun _ => -1) qc_il22 (fun _ => false) qc_sx7 qc_sy8 qc_so28 qc_co29 qc_te30 qc_lt31 qc_go32 (fun _ _ => 0) (fun _ _ => 0) 0 9999 (fun _ _ => 0) (fun _ => 0) r := by
  unfold fL_crosses239
  obtain ⟨m1, e, K⟩ := fault_ok (k := 1) (n := 1) (qq := none) (c := (-1)) (d := (-1)) (e := (-1)) (f := (-1)) K (by decide) rfl (by decide +kernel) (by decide) (by decide) (by decide) (by decide)
  refine zgoF e ?_
  obtain ⟨m1, e, K⟩ := K_agrees K
  refine zgoG e (by decide) ?_
  obtain ⟨m1, go', e, K⟩ := K_part (a := 2) (c := 2) (t := 240) K false (by decide) (by decide) (by decide) (by decide)
  have K : zK 2 4 3 0 qc_le20 (fun _ => -1) qc_il22 (fun _ => false) qc_sx7 qc_sy8 qc_so28 qc_co29 qc_te30 qc_lt31 go' (fun _ _ => 0) (fun _ _ => 0) 0 9999 (fun _ _ => 0) (fun _ => 0) m1 := K
  have K : zK 2 4 3 0 qc_le20 (fun _ => -1) qc_il22 (fun _ => false) qc_sx7 qc_sy8 qc_so28 qc_co29 qc_te30 qc_lt31 qc_go32 (fun _ _ => 0) (fun _ _ => 0) 0 9999 (fun _ _ => 0) (fun _ => 0) m1 := K_goB K (Or.inl rfl) (by decide +kernel)
  refine zgoI e (by decide) ?_
  obtain ⟨m1, e, K⟩ := fault_ok (k := 2) (n := 2) (qq := (some (2, 101))) (c := (2)) (d := (1)) (e := (0)) (f := (1)) K (by decide) rfl (by decide +kernel) (by decide) (by decide) (by decide) (by decide)
  refine zgoF e ?_
  exact zgoE K
def qc_il33 : Nat → Bool := zUp qc_il22 0 true
def qc_il34 : Nat → Bool := zUp qc_il33 1 true
theorem pL_crosses387 {m : dM} (K : zK 2 4 3 0 qc_le20 (fun _ => -1) qc_il22 (fun _ => false) qc_sx7 qc_sy8 qc_so28 qc_co29 qc_te30 qc_lt31 qc_go32 (fun _ _ => 0) (fun _ _ => 0) 0 9999 (fun _ _ => 0) (fun _ => 0) m) : ∃ r, fL_crosses387 m = some r ∧ zK 2 4 3 0 qc_le20 (fun _ => -1) qc_il34 (fun _ => false) qc_sx7 qc_sy8 qc_so28 qc_co29 qc_te30 qc_lt31 qc_go32 (fun _ _ => 0) (fun _ _ => 0) 0 9999 (fun _ _ => 0) (fun _ => 0) r := by
  unfold fL_crosses387
  obtain ⟨m1, e, K⟩ := K_phase (a := 0) (c := 0) (x := 0) (y := (-6)) K (by decide) (by decide +kernel) (by decide) (by decide)
  refine zgoI e (by decide +kernel) ?_
  obtain ⟨m1, e, K⟩ := K_phase (a := 0) (c := 8) (x := 20) (y := (-6)) K (by decide) (by decide +kernel) (by decide) (by decide)
  refine zgoI e (by decide +kernel) ?_
  obtain ⟨m1, e, K⟩ := K_phase (a := 0) (c := 3) (x := 10) (y := (-50)) K (by decide) (by decide +kernel) (by decide) (by decide)
  refine zgoI e (by decide +kernel) ?_
  obtain ⟨m1, e, K⟩ := K_phase (a := 0) (c := 0) (x := 1600) (y := (-1000)) K (by decide) (by decide +kernel) (by decide) (by decide)
  refine zgoI e (by decide +kernel) ?_
  obtain ⟨m1, e, K⟩ := K_ill (a := 0) K true (by decide)
  have K : zK 2 4 3 0 qc_le20 (fun _ => -1) qc_il33 (fun _ => false) qc_sx7 qc_sy8 qc_so28 qc_co29 qc_te30 qc_lt31 qc_go32 (fun _ _ => 0) (fun _ _ => 0) 0 9999 (fun _ _ => 0) (fun _ => 0) m1 := K
  refine zgoI e (by decide +kernel) ?_
  obtain ⟨m1, e, K⟩ := K_phase (a := 0) (c := 0) (x := 0) (y := (-6)) K (by decide) (by decide +kernel) (by decide) (by decide)
  refine zgoI e (by decide +kernel) ?_
  obtain ⟨m1, e, K⟩ := K_ill (a := 1) K true (by decide)
  have K : zK 2 4 3 0 qc_le20 (fun _ => -1) qc_il34 (fun _ => false) qc_sx7 qc_sy8 qc_so28 qc_co29 qc_te30 qc_lt31 qc_go32 (fun _ _ => 0) (fun _ _ => 0) 0 9999 (fun _ _ => 0) (fun _ => 0) m1 := K
  refine zgoI e (by decide +kernel) ?_
  obtain ⟨m1, e, K⟩ := K_phase (a := 0) (c := 0) (x := 0) (y := (-6)) K (by decide) (by decide +kernel) (by decide) (by decide)
  refine zgoI e (by decide +kernel) ?_
  obtain ⟨m1, e, K⟩ := rt_73 (a := 0) (b := 0) (c := 0) (d := 1) (e := 0) K (by decide) (by decide +kernel)
  refine zgoT e rfl ?_
  exact zgoE K
def qc_il35 : Nat → Bool := zUp qc_il34 0 false
def qc_il36 : Nat → Bool := zUp qc_il35 1 false
theorem pL_crosses500 {m : dM} (K : zK 2 4 3 0 qc_le20 (fun _ => -1) qc_il34 (fun _ => false) qc_sx7 qc_sy8 qc_so28 qc_co29 qc_te30 qc_lt31 qc_go32 (fun _ _ => 0) (fun _ _ => 0) 0 9999 (fun _ _ => 0) (fun _ => 0) m) : ∃ r, fL_crosses500 m = some r ∧ zK 2 4 3 0 qc_le20 (fun _ => -1) qc_il36 (fun _ => false) qc_sx7 qc_sy8 qc_so28 qc_co29 qc_te30 qc_lt31 qc_go32 (fun _ _ => 0) (fun _ _ => 0) 0 9999 (fun _ _ => 0) (fun _ => 0) r := by
  unfold fL_crosses500
  obtain ⟨m1, e, K⟩ := K_ill (a := 0) K false (by decide)
  have K : zK 2 4 3 0 qc_le20 (fun _ => -1) qc_il35 (fun _ => false) qc_sx7 qc_sy8 qc_so28 qc_co29 qc_te30 qc_lt31 qc_go32 (fun _ _ => 0) (fun _ _ => 0) 0 9999 (fun _ _ => 0) (fun _ => 0) m1 := K
  refine zgoN e (by decide +kernel) ?_
  obtain ⟨m1, e, K⟩ := K_ill (a := 1) K false (by decide)
  have K : zK 2 4 3 0 qc_le20 (fun _ => -1) qc_il36 (fun _ => false) qc_sx7 qc_sy8 qc_so28 qc_co29 qc_te30 qc_lt31 qc_go32 (fun _ _ => 0) (fun _ _ => 0) 0 9999 (fun _ _ => 0) (fun _ => 0) m1 := K
  refine zgoN e (by decide +kernel) ?_
  obtain ⟨m1, e, K⟩ := gt (a := 0) (b := 0) (c := 0) (d := 9) (e := 1) K (by decide) (by decide +kernel)
  refine zgoT e (by decide +kernel) ?_
  obtain ⟨m1, e, K⟩ := gt (a := 0) (b := 0) (c := 0) (d := 9) (e := 2) K (by decide) (by decide +kernel)
  refine zgoT e (by decide +kernel) ?_
  obtain ⟨m1, e, K⟩ := gt (a := 0) (b := 8) (c := 0) (d := 5) (e := (-2)) K (by decide) (by decide +kernel)
  refine zgoT e (by decide +kernel) ?_
  obtain ⟨m1, e, K⟩ := gt (a := 0) (b := 8) (c := 0) (d := 5) (e := (-3)) K (by decide) (by decide +kernel)
  refine zgoT e (by decide +kernel) ?_
  obtain ⟨m1, e, K⟩ := gt (a := 1) (b := 0) (c := 0) (d := 1) (e := 0) K (by decide) (by decide +kernel)
  refine zgoT e (by decide +kernel) ?_
  have e := K_page (a := 0) (b := 1) (c := 0) K (by decide) (by decide)
  refine zgoI e (by decide +kernel) ?_
  have e := K_page (a := 0) (b := 1) (c := 1) K (by decide) (by decide)
  refine zgoI e (by decide +kernel) ?_
  exact zgoE K
def qc_so37 : Nat → Nat := zUp qc_so28 3 3
def qc_co38 : Nat → Int := zUp qc_co29 3 5
def qc_te39 : Nat → Int := zUp qc_te30 3 100
def qc_lt40 : Nat → Bool := zUp qc_lt31 3 false
def qc_go41 : Nat → Nat → Nat := fun i d => ((([[0, 1], [1, 0], [0, 1], [0, 1]] : List (List Nat)).getD i []).getD d 0)
theorem pL_crosses610 {m : dM} (K : zK 2 4 3 0 qc_le20 (fun _ => -1) qc_il36 (fun _ => false) qc_sx7 qc_sy8 qc_so28 qc_co29 qc_te30 qc_lt31 qc_go32 (fun _ _ => 0) (fun _ _ => 0) 0 9999 (fun _ _ => 0) (fun _ => 0) m) : ∃ r, fL_crosses610 m = some r ∧ zK 2 4 4 0 qc_le20 (fun _ => -1) qc_il36 (fun _ => false) qc_sx7 qc_sy8 qc_so37 qc_co38 qc_te39 qc_lt40 qc_go41 (fun _ _ => 0) (fun _ _ => 0) 0 9999 (fun _ _ => 0) (fun _ => 0) r := by
  unfold fL_crosses610
  have e := K_page (a := 0) (b := 1) (c := 2) K (by decide) (by decide)
  refine zgoI e (by decide +kernel) ?_
  have e := K_page (a := 0) (b := 1) (c := 3) K (by decide) (by decide)
  refine zgoI e (by decide +kernel) ?_
  obtain ⟨m1, go', e, K⟩ := K_part (a := 3) (c := 5) (t := 100) K false (by decide) (by decide) (by decide) (by decide)
  have K : zK 2 4 4 0 qc_le20 (fun _ => -1) qc_il36 (fun _ => false) qc_sx7 qc_sy8 qc_so37 qc_co38 qc_te39 qc_lt40 go' (fun _ _ => 0) (fun _ _ => 0) 0 9999 (fun _ _ => 0) (fun _ => 0) m1 := K
  have K : zK 2 4 4 0 qc_le20 (fun _ => -1) qc_il36 (fun _ => false) qc_sx7 qc_sy8 qc_so37 qc_co38 qc_te39 qc_lt40 qc_go41 (fun _ _ => 0) (fun _ _ => 0) 0 9999 (fun _ _ => 0) (fun _ => 0) m1 := K_goB K (Or.inl rfl) (by decide +kernel)
  refine zgoI e (by decide) ?_
  have e := K_page (a := 3) (b := 0) (c := 0) K (by decide) (by decide)
  refine zgoI e (by decide +kernel) ?_
  have e := K_page (a := 3) (b := 0) (c := 1) K (by decide) (by decide)
  refine zgoI e (by decide +kernel) ?_
  have e := K_page (a := 3) (b := 0) (c := 2) K (by decide) (by decide)
  refine zgoI e (by decide +kernel) ?_
  have e := K_page (a := 3) (b := 0) (c := 3) K (by decide) (by decide)
  refine zgoI e (by decide +kernel) ?_
  have e := K_page (a := 3) (b := 1) (c := 0) K (by decide) (by decide)
  refine zgoI e (by decide +kernel) ?_
  have e := K_page (a := 3) (b := 1) (c := 1) K (by decide) (by decide)
  refine zgoI e (by decide +kernel) ?_
  exact zgoE K
def qc_px42 : Nat → Nat → Int := zX qc_sx7 qc_so37 qc_go41
def qc_py43 : Nat → Nat → Int := zX qc_sy8 qc_so37 qc_go41
def qc_px44 : Nat → Nat → Int := zX qc_sx7 qc_so37 qc_go41
def qc_py45 : Nat → Nat → Int := zX qc_sy8 qc_so37 qc_go41
def qc_so46 : Nat → Nat := zUp qc_so37 3 2
def qc_co47 : Nat → Int := zUp qc_co38 3 5
def qc_te48 : Nat → Int := zUp qc_te39 3 100
def qc_lt49 : Nat → Bool := zUp qc_lt40 3 true
def qc_go50 : Nat → Nat → Nat := fun i d => ((([[0, 1], [1, 0], [0, 1], [0, 1]] : List (List Nat)).getD i []).getD d 0)
def qc_so51 : Nat → Nat := zUp qc_so46 3 3
def qc_co52 : Nat → Int := zUp qc_co47 3 7
def qc_te53 : Nat → Int := zUp qc_te48 3 70
def qc_lt54 : Nat → Bool := zUp qc_lt49 3 true
def qc_go55 : Nat → Nat → Nat := fun i d => ((([[0, 1], [1, 0], [0, 1], [1, 0]] : List (List Nat)).getD i []).getD d 0)
theorem pL_crosses711 {m : dM} (K : zK 2 4 4 0 qc_le20 (fun _ => -1) qc_il36 (fun _ => false) qc_sx7 qc_sy8 qc_so37 qc_co38 qc_te39 qc_lt40 qc_go41 (fun _ _ => 0) (fun _ _ => 0) 0 9999 (fun _ _ => 0) (fun _ => 0) m) : ∃ r, fL_crosses711 m = some r ∧ zK 2 4 4 4 qc_le20 (fun _ => -1) qc_il36 (fun _ => false) qc_sx7 qc_sy8 qc_so51 qc_co52 qc_te53 qc_lt54 qc_go55 qc_px44 qc_py45 0 9999 (fun _ _ => 0) (fun _ => 0) r := by
  unfold fL_crosses711
  have e := K_page (a := 3) (b := 1) (c := 2) K (by decide) (by decide)
  refine zgoI e (by decide +kernel) ?_
  have e := K_page (a := 3) (b := 1) (c := 3) K (by decide) (by decide)
  refine zgoI e (by decide +kernel) ?_
  refine zgoP (K_changed K) (by decide +kernel) ?_
  obtain ⟨m1, e, K⟩ := K_publish K
  have K : zK 2 4 4 4 qc_le20 (fun _ => -1) qc_il36 (fun _ => false) qc_sx7 qc_sy8 qc_so37 qc_co38 qc_te39 qc_lt40 qc_go41 qc_px42 qc_py43 0 9999 (fun _ _ => 0) (fun _ => 0) m1 := K
  refine zgoT e (by decide +kernel) ?_
  refine zgoP (K_changed K) (by decide +kernel) ?_
  obtain ⟨m1, e, K⟩ := K_publish K
  have K : zK 2 4 4 4 qc_le20 (fun _ => -1) qc_il36 (fun _ => false) qc_sx7 qc_sy8 qc_so37 qc_co38 qc_te39 qc_lt40 qc_go41 qc_px44 qc_py45 0 9999 (fun _ _ => 0) (fun _ => 0) m1 := K
  refine zgoT e (by decide +kernel) ?_
  obtain ⟨m1, go', e, K⟩ := g8 (a := 3) (b := 2) (c := 5) (d := 100) K (by decide) (by decide) (by decide) (by decide)
  have K : zK 2 4 4 4 qc_le20 (fun _ => -1) qc_il36 (fun _ => false) qc_sx7 qc_sy8 qc_so46 qc_co47 qc_te48 qc_lt49 go' qc_px44 qc_py45 0 9999 (fun _ _ => 0) (fun _ => 0) m1 := K
  have K : zK 2 4 4 4 qc_le20 (fun _ => -1) qc_il36 (fun _ => false) qc_sx7 qc_sy8 qc_so46 qc_co47 qc_te48 qc_lt49 qc_go50 qc_px44 qc_py45 0 9999 (fun _ _ => 0) (fun _ => 0) m1 := K_goB K (Or.inl rfl) (by decide +kernel)
  refine zgoA e rfl ?_
  refine zgoP (K_changed K) (by decide +kernel) ?_
  obtain ⟨m1, go', e, K⟩ := g8 (a := 3) (b := 3) (c := 7) (d := 70) K (by decide) (by decide) (by decide) (by decide)
  have K : zK 2 4 4 4 qc_le20 (fun _ => -1) qc_il36 (fun _ => false) qc_sx7 qc_sy8 qc_so51 qc_co52 qc_te53 qc_lt54 go' qc_px44 qc_py45 0 9999 (fun _ _ => 0) (fun _ => 0) m1 := K
  have K : zK 2 4 4 4 qc_le20 (fun _ => -1) qc_il36 (fun _ => false) qc_sx7 qc_sy8 qc_so51 qc_co52 qc_te53 qc_lt54 qc_go55 qc_px44 qc_py45 0 9999 (fun _ _ => 0) (fun _ => 0) m1 := K_goB K (Or.inl rfl) (by decide +kernel)
  refine zgoA e rfl ?_
  exact zgoE K
def qc_px56 : Nat → Nat → Int := zX qc_sx7 qc_so51 qc_go55
def qc_py57 : Nat → Nat → Int := zX qc_sy8 qc_so51 qc_go55
def qc_so58 : Nat → Nat := zUp qc_so51 3 0
def qc_co59 : Nat → Int := zUp qc_co52 3 5
def qc_te60 : Nat → Int := zUp qc_te53 3 60
def qc_lt61 : Nat → Bool := zUp qc_lt54 3 false
def qc_go62 : Nat → Nat → Nat := fun i d => ((([[0, 1], [1, 0], [0, 1], [0, 1]] : List (List Nat)).getD i []).getD d 0)
theorem pL_crosses810 {m : dM} (K : zK 2 4 4 4 qc_le20 (fun _ => -1) qc_il36 (fun _ => false) qc_sx7 qc_sy8 qc_so51 qc_co52 qc_te53 qc_lt54 qc_go55 qc_px44 qc_py45 0 9999 (fun _ _ => 0) (fun _ => 0) m) : ∃ r, fL_crosses810 m = some r ∧ zK 2 4 4 3 qc_le20 (fun _ => -1) qc_il36 (fun _ => false) qc_sx7 qc_sy8 qc_so58 qc_co59 qc_te60 qc_lt61 qc_go62 qc_px56 qc_py57 0 9999 (fun _ _ => 0) (fun _ => 0) r := by
  unfold fL_crosses810
  have e := K_page (a := 3) (b := 0) (c := 0) K (by decide) (by decide)
  refine zgoI e (by decide +kernel) ?_
  have e := K_place (a := 3) (b := 0) K (by decide)
  refine zgoI e (by decide +kernel) ?_
  refine zgoP (K_changed K) (by decide +kernel) ?_
  obtain ⟨m1, e, K⟩ := K_cut (P := 0) (P' := 3) K
  have K : zK 2 4 3 4 qc_le20 (fun _ => -1) qc_il36 (fun _ => false) qc_sx7 qc_sy8 qc_so51 qc_co52 qc_te53 qc_lt54 qc_go55 qc_px44 qc_py45 0 9999 (fun _ _ => 0) (fun _ => 0) m1 := K
  refine zgoI e (by decide) ?_
  refine zgoP (K_changed K) (by decide +kernel) ?_
  obtain ⟨m1, e, K⟩ := K_publish K
  have K : zK 2 4 3 3 qc_le20 (fun _ => -1) qc_il36 (fun _ => false) qc_sx7 qc_sy8 qc_so51 qc_co52 qc_te53 qc_lt54 qc_go55 qc_px56 qc_py57 0 9999 (fun _ _ => 0) (fun _ => 0) m1 := K
  refine zgoT e (by decide +kernel) ?_
  refine zgoP (K_changed K) (by decide +kernel) ?_
  obtain ⟨m1, go', e, K⟩ := K_part (a := 0) (c := 5) (t := 60) K false (by decide) (by decide) (by decide) (by decide)
  have K : zK 2 4 4 3 qc_le20 (fun _ => -1) qc_il36 (fun _ => false) qc_sx7 qc_sy8 qc_so58 qc_co59 qc_te60 qc_lt61 go' qc_px56 qc_py57 0 9999 (fun _ _ => 0) (fun _ => 0) m1 := K
  have K : zK 2 4 4 3 qc_le20 (fun _ => -1) qc_il36 (fun _ => false) qc_sx7 qc_sy8 qc_so58 qc_co59 qc_te60 qc_lt61 qc_go62 qc_px56 qc_py57 0 9999 (fun _ _ => 0) (fun _ => 0) m1 := K_goB K (Or.inl rfl) (by decide +kernel)
  refine zgoI e (by decide) ?_
  refine zgoP (K_changed K) (by decide +kernel) ?_
  exact zgoE K
def qp_sx1 : Nat → Nat → Int := zAdd 0 (zLn 0 9 2) (fun _ _ => 0)
def qp_sy2 : Nat → Nat → Int := zAdd 0 (zLn 0 0 2) (fun _ _ => 0)
def qp_sx3 : Nat → Nat → Int := zAdd 1 (zLn 0 10 2) qp_sx1
def qp_sy4 : Nat → Nat → Int := zAdd 1 (zLn 0 0 2) qp_sy2
def qp_so5 : Nat → Nat := zUp (fun _ => 0) 0 0
def qp_co6 : Nat → Int := zUp (fun _ => 0) 0 3
def qp_te7 : Nat → Int := zUp (fun _ => 0) 0 60
def qp_lt8 : Nat → Bool := zUp (fun _ => false) 0 true
def qp_go9 : Nat → Nat → Nat := fun i d => ((([[0, 1]] : List (List Nat)).getD i []).getD d 0)
def qp_so10 : Nat → Nat := zUp qp_so5 0 1
def qp_co11 : Nat → Int := zUp qp_co6 0 3
def qp_te12 : Nat → Int := zUp qp_te7 0 60
def qp_lt13 : Nat → Bool := zUp qp_lt8 0 true
def qp_go14 : Nat → Nat → Nat := fun i d => ((([[0, 1]] : List (List Nat)).getD i []).getD d 0)
theorem pL_crossesp294 {m : dM} (K : zK 4 0 0 0 (fun _ => 14) (fun _ => -1) (fun _ => false) (fun _ => false) (fun _ _ => 0) (fun _ _ => 0) (fun _ => 0) (fun _ => 0) (fun _ => 0) (fun _ => false) (fun _ _ => 0) (fun _ _ => 0) (fun _ _ => 0) 0 9999 (fun _ _ => 0) (fun _ => 0) m) : ∃ r, fL_crossesp294 m = some r ∧ zK 2 2 1 0 (fun _ => 14) (fun _ => -1) (fun _ => false) (fun _ => false) qp_sx3 qp_sy4 qp_so10 qp_co11 qp_te12 qp_lt13 qp_go14 (fun _ _ => 0) (fun _ _ => 0) 0 9999 (fun _ _ => 0) (fun _ => 0) r := by
  unfold fL_crossesp294
  obtain ⟨m1, e, K⟩ := g0 (a := 2) (b := 0) (c := 0) (d := 0) K rfl (by decide) (by decide)
  have K : zK 2 0 0 0 (fun _ => 14) (fun _ => -1) (fun _ => false) (fun _ => false) (fun _ _ => 0) (fun _ _ => 0) (fun _ => 0) (fun _ => 0) (fun _ => 0) (fun _ => false) (fun _ _ => 0) (fun _ _ => 0) (fun _ _ => 0) 0 9999 (fun _ _ => 0) (fun _ => 0) m1 := K
  refine zgoA e rfl ?_
  obtain ⟨m1, e, K⟩ := K_line (a := 0) (b := 0) (c := 9) (d := 0) K (by decide) (by decide +kernel) (by decide +kernel) (by decide)
  have K : zK 2 1 0 0 (fun _ => 14) (fun _ => -1) (fun _ => false) (fun _ => false) qp_sx1 qp_sy2 (fun _ => 0) (fun _ => 0) (fun _ => 0) (fun _ => false) (fun _ _ => 0) (fun _ _ => 0) (fun _ _ => 0) 0 9999 (fun _ _ => 0) (fun _ => 0) m1 := K
  refine zgoI e (by decide) ?_
  obtain ⟨m1, e, K⟩ := K_line (a := 0) (b := 0) (c := 10) (d := 0) K (by decide) (by decide +kernel) (by decide +kernel) (by decide)
  have K : zK 2 2 0 0 (fun _ => 14) (fun _ => -1) (fun _ => false) (fun _ => false) qp_sx3 qp_sy4 (fun _ => 0) (fun _ => 0) (fun _ => 0) (fun _ => false) (fun _ _ => 0) (fun _ _ => 0) (fun _ _ => 0) 0 9999 (fun _ _ => 0) (fun _ => 0) m1 := K
  refine zgoI e (by decide) ?_
  obtain ⟨m1, go', e, K⟩ := K_part (a := 0) (c := 3) (t := 60) K true (by decide) (by decide) (by decide) (by decide)
  have K : zK 2 2 1 0 (fun _ => 14) (fun _ => -1) (fun _ => false) (fun _ => false) qp_sx3 qp_sy4 qp_so5 qp_co6 qp_te7 qp_lt8 go' (fun _ _ => 0) (fun _ _ => 0) 0 9999 (fun _ _ => 0) (fun _ => 0) m1 := K
  have K : zK 2 2 1 0 (fun _ => 14) (fun _ => -1) (fun _ => false) (fun _ => false) qp_sx3 qp_sy4 qp_so5 qp_co6 qp_te7 qp_lt8 qp_go9 (fun _ _ => 0) (fun _ _ => 0) 0 9999 (fun _ _ => 0) (fun _ => 0) m1 := K_goB K (Or.inl rfl) (by decide +kernel)
  refine zgoI e (by decide) ?_
  obtain ⟨m1, e, K⟩ := fault_ok (k := 0) (n := 3) (qq := (some (1, 101))) (c := (1)) (d := (1)) (e := (0)) (f := (1)) K (by decide) rfl (by decide +kernel) (by decide) (by decide) (by decide) (by decide)
  refine zgoF e ?_
  obtain ⟨m1, go', e, K⟩ := g8 (a := 0) (b := 1) (c := 3) (d := 60) K (by decide) (by decide) (by decide) (by decide)
  have K : zK 2 2 1 0 (fun _ => 14) (fun _ => -1) (fun _ => false) (fun _ => false) qp_sx3 qp_sy4 qp_so10 qp_co11 qp_te12 qp_lt13 go' (fun _ _ => 0) (fun _ _ => 0) 0 9999 (fun _ _ => 0) (fun _ => 0) m1 := K
  have K : zK 2 2 1 0 (fun _ => 14) (fun _ => -1) (fun _ => false) (fun _ => false) qp_sx3 qp_sy4 qp_so10 qp_co11 qp_te12 qp_lt13 qp_go14 (fun _ _ => 0) (fun _ _ => 0) 0 9999 (fun _ _ => 0) (fun _ => 0) m1 := K_goB K (Or.inl rfl) (by decide +kernel)
  refine zgoA e rfl ?_
  obtain ⟨m1, e, K⟩ := fault_ok (k := 0) (n := 3) (qq := none) (c := (-1)) (d := (-1)) (e := (-1)) (f := (-1)) K (by decide) rfl (by decide +kernel) (by decide) (by decide) (by decide) (by decide)
  refine zgoF e ?_
  exact zgoE K
theorem crossesA_ok : ∃ r, fL_crossesA dI = some r ∧ zK 2 4 3 0 qc_le20 (fun _ => -1) qc_il22 (fun _ => false) qc_sx7 qc_sy8 qc_so28 qc_co29 qc_te30 qc_lt31 qc_go32 (fun _ _ => 0) (fun _ _ => 0) 0 9999 (fun _ _ => 0) (fun _ => 0) r := by
  have K := K_dI
  unfold fL_crossesA
  obtain ⟨m1, e, K⟩ := pL_crosses8 K
  refine zgoF e ?_
  obtain ⟨m1, e, K⟩ := pL_crosses130 K
  refine zgoF e ?_
  obtain ⟨m1, e, K⟩ := pL_crosses239 K
  refine zgoF e ?_
  exact zgoE K
theorem crossesB_ok : ∃ r, fL_crossesB dI = some r ∧ True := by
  have K := K_dI
  unfold fL_crossesB
  obtain ⟨m1, e, K⟩ := pL_crossesp294 K
  refine zgoF e ?_
  exact zgoE trivial
theorem crossesC_ok {m : dM} (K : zK 2 4 3 0 qc_le20 (fun _ => -1) qc_il22 (fun _ => false) qc_sx7 qc_sy8 qc_so28 qc_co29 qc_te30 qc_lt31 qc_go32 (fun _ _ => 0) (fun _ _ => 0) 0 9999 (fun _ _ => 0) (fun _ => 0) m) : ∃ r, fL_crossesC m = some r ∧ True := by
  unfold fL_crossesC
  obtain ⟨m1, e, K⟩ := pL_crosses387 K
  refine zgoF e ?_
  obtain ⟨m1, e, K⟩ := pL_crosses500 K
  refine zgoF e ?_
  obtain ⟨m1, e, K⟩ := pL_crosses610 K
  refine zgoF e ?_
  obtain ⟨m1, e, K⟩ := pL_crosses711 K
  refine zgoF e ?_
  obtain ⟨m1, e, K⟩ := pL_crosses810 K
  refine zgoF e ?_
  obtain ⟨m1, e, K⟩ := K_cut (P := 0) (P' := 3) K
  have K : zK 2 4 3 3 qc_le20 (fun _ => -1) qc_il36 (fun _ => false) qc_sx7 qc_sy8 qc_so58 qc_co59 qc_te60 qc_lt61 qc_go62 qc_px56 qc_py57 0 9999 (fun _ _ => 0) (fun _ => 0) m1 := K
  refine zgoI e (by decide) ?_
  refine zgoP (K_changed K) (by decide +kernel) ?_
  obtain ⟨m1, e, K⟩ := refuses_ok (zc := 8) K (fun _ => by decide +kernel)
  refine zgoF e ?_
  exact zgoE trivial
theorem crosses_ok : ∃ r, fL_crosses = some r := by
  obtain ⟨m1, e1, K⟩ := crossesA_ok
  obtain ⟨m2, e2, -⟩ := crossesB_ok
  obtain ⟨m3, e3, -⟩ := crossesC_ok K
  exact ⟨m3, by unfold fL_crosses; rw [e1, Option.bind_some, e2, Option.bind_some, e3]⟩
