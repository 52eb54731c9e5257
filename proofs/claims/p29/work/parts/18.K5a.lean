def qd_sx1 : Nat → Nat → Int := zAdd 0 (zLn 0 100 3) (fun _ _ => 0)
def qd_sy2 : Nat → Nat → Int := zAdd 0 (zLn 0 50 3) (fun _ _ => 0)
def qd_sx3 : Nat → Nat → Int := zAdd 1 (zLn 100 0 3) qd_sx1
def qd_sy4 : Nat → Nat → Int := zAdd 1 (zLn 50 0 3) qd_sy2
def qd_sx5 : Nat → Nat → Int := zAdd 2 (zLn 100 99 3) qd_sx3
def qd_sy6 : Nat → Nat → Int := zAdd 2 (zLn 0 0 3) qd_sy4
def qd_sx7 : Nat → Nat → Int := zAdd 3 (zKx 10 2 20) qd_sx5
def qd_sy8 : Nat → Nat → Int := zAdd 3 (zKy 10 2 20) qd_sy6
theorem pL_drills8 {m : dM} (K : zK 4 0 0 0 (fun _ => 14) (fun _ => -1) (fun _ => false) (fun _ => false) (fun _ _ => 0) (fun _ _ => 0) (fun _ => 0) (fun _ => 0) (fun _ => 0) (fun _ => false) (fun _ _ => 0) (fun _ _ => 0) (fun _ _ => 0) 0 9999 (fun _ _ => 0) (fun _ => 0) m) : ∃ r, fL_drills8 m = some r ∧ zK 3 4 0 0 (fun _ => 14) (fun _ => -1) (fun _ => false) (fun _ => false) qd_sx7 qd_sy8 (fun _ => 0) (fun _ => 0) (fun _ => 0) (fun _ => false) (fun _ _ => 0) (fun _ _ => 0) (fun _ _ => 0) 0 9999 (fun _ _ => 0) (fun _ => 0) r := by
  unfold fL_drills8
  obtain ⟨m1, e, K⟩ := refuses_ok (zc := 0) K (fun q => absurd q (by decide))
  refine zgoF e ?_
  obtain ⟨m1, e, K⟩ := r9_73 (a := 0) (b := 0) (c := 0) (d := 0) K (by decide) rfl
  refine zgoA e rfl ?_
  refine zgoP (K_lasts K) (by decide +kernel) ?_
  obtain ⟨m1, e, K⟩ := K_agrees K
  refine zgoG e (by decide) ?_
  obtain ⟨m1, e, K⟩ := g0 (a := 3) (b := 0) (c := 0) (d := 0) K rfl (by decide) (by decide)
  have K : zK 3 0 0 0 (fun _ => 14) (fun _ => -1) (fun _ => false) (fun _ => false) (fun _ _ => 0) (fun _ _ => 0) (fun _ => 0) (fun _ => 0) (fun _ => 0) (fun _ => false) (fun _ _ => 0) (fun _ _ => 0) (fun _ _ => 0) 0 9999 (fun _ _ => 0) (fun _ => 0) m1 := K
  refine zgoA e rfl ?_
  obtain ⟨m1, e, K⟩ := K_line (a := 0) (b := 0) (c := 100) (d := 50) K (by decide) (by decide +kernel) (by decide +kernel) (by decide)
  have K : zK 3 1 0 0 (fun _ => 14) (fun _ => -1) (fun _ => false) (fun _ => false) qd_sx1 qd_sy2 (fun _ => 0) (fun _ => 0) (fun _ => 0) (fun _ => false) (fun _ _ => 0) (fun _ _ => 0) (fun _ _ => 0) 0 9999 (fun _ _ => 0) (fun _ => 0) m1 := K
  refine zgoI e (by decide) ?_
  obtain ⟨m1, e, K⟩ := K_line (a := 100) (b := 50) (c := 0) (d := 0) K (by decide) (by decide +kernel) (by decide +kernel) (by decide)
  have K : zK 3 2 0 0 (fun _ => 14) (fun _ => -1) (fun _ => false) (fun _ => false) qd_sx3 qd_sy4 (fun _ => 0) (fun _ => 0) (fun _ => 0) (fun _ => false) (fun _ _ => 0) (fun _ _ => 0) (fun _ _ => 0) 0 9999 (fun _ _ => 0) (fun _ => 0) m1 := K
  refine zgoI e (by decide) ?_
  obtain ⟨m1, e, K⟩ := K_line (a := 100) (b := 0) (c := 99) (d := 0) K (by decide) (by decide +kernel) (by decide +kernel) (by decide)
  have K : zK 3 3 0 0 (fun _ => 14) (fun _ => -1) (fun _ => false) (fun _ => false) qd_sx5 qd_sy6 (fun _ => 0) (fun _ => 0) (fun _ => 0) (fun _ => false) (fun _ _ => 0) (fun _ _ => 0) (fun _ _ => 0) 0 9999 (fun _ _ => 0) (fun _ => 0) m1 := K
  refine zgoI e (by decide) ?_
  obtain ⟨m1, e, K⟩ := K_block (a := 10) (b := 10) (c := 2) (d := 20) K (by decide) (by decide +kernel) (by decide +kernel) (by decide)
  have K : zK 3 4 0 0 (fun _ => 14) (fun _ => -1) (fun _ => false) (fun _ => false) qd_sx7 qd_sy8 (fun _ => 0) (fun _ => 0) (fun _ => 0) (fun _ => false) (fun _ _ => 0) (fun _ _ => 0) (fun _ _ => 0) 0 9999 (fun _ _ => 0) (fun _ => 0) m1 := K
  refine zgoI e (by decide) ?_
  exact zgoE K
def qd_sx9 : Nat → Nat → Int := zAdd 4 (zVx 500 10) qd_sx7
def qd_sy10 : Nat → Nat → Int := zAdd 4 (zVy 100 10) qd_sy8
def qd_so11 : Nat → Nat := zUp (fun _ => 0) 0 0
def qd_co12 : Nat → Int := zUp (fun _ => 0) 0 10
def qd_te13 : Nat → Int := zUp (fun _ => 0) 0 120
def qd_lt14 : Nat → Bool := zUp (fun _ => false) 0 false
def qd_go15 : Nat → Nat → Nat := fun i d => ((([[0, 1, 2]] : List (List Nat)).getD i []).getD d 0)
theorem pL_drills120 {m : dM} (K : zK 3 4 0 0 (fun _ => 14) (fun _ => -1) (fun _ => false) (fun _ => false) qd_sx7 qd_sy8 (fun _ => 0) (fun _ => 0) (fun _ => 0) (fun _ => false) (fun _ _ => 0) (fun _ _ => 0) (fun _ _ => 0) 0 9999 (fun _ _ => 0) (fun _ => 0) m) : ∃ r, fL_drills120 m = some r ∧ zK 3 5 1 0 (fun _ => 14) (fun _ => -1) (fun _ => false) (fun _ => false) qd_sx9 qd_sy10 qd_so11 qd_co12 qd_te13 qd_lt14 qd_go15 (fun _ _ => 0) (fun _ _ => 0) 0 9999 (fun _ _ => 0) (fun _ => 0) r := by
  unfold fL_drills120
  obtain ⟨m1, e, K⟩ := K_wedge (a := 500) (b := 100) (c := 10) K (by decide) (by decide +kernel) (by decide +kernel) (by decide)
  have K : zK 3 5 0 0 (fun _ => 14) (fun _ => -1) (fun _ => false) (fun _ => false) qd_sx9 qd_sy10 (fun _ => 0) (fun _ => 0) (fun _ => 0) (fun _ => false) (fun _ _ => 0) (fun _ _ => 0) (fun _ _ => 0) 0 9999 (fun _ _ => 0) (fun _ => 0) m1 := K
  refine zgoI e (by decide) ?_
  obtain ⟨m1, e, K⟩ := r5_q (a := 1590) (b := 0) (c := 2) (d := 20) K (by decide) (by decide +kernel)
  refine zgoA e rfl ?_
  obtain ⟨m1, e, K⟩ := r6_q (a := 5) (b := 0) (c := 10) (d := 0) K (by decide) (by decide +kernel)
  refine zgoA e rfl ?_
  obtain ⟨m1, e, K⟩ := r6_q (a := 500) (b := 835) (c := 10) (d := 0) K (by decide) (by decide +kernel)
  refine zgoA e rfl ?_
  obtain ⟨m1, go', e, K⟩ := K_part (a := 0) (c := 10) (t := 120) K false (by decide) (by decide) (by decide) (by decide)
  have K : zK 3 5 1 0 (fun _ => 14) (fun _ => -1) (fun _ => false) (fun _ => false) qd_sx9 qd_sy10 qd_so11 qd_co12 qd_te13 qd_lt14 go' (fun _ _ => 0) (fun _ _ => 0) 0 9999 (fun _ _ => 0) (fun _ => 0) m1 := K
  have K : zK 3 5 1 0 (fun _ => 14) (fun _ => -1) (fun _ => false) (fun _ => false) qd_sx9 qd_sy10 qd_so11 qd_co12 qd_te13 qd_lt14 qd_go15 (fun _ _ => 0) (fun _ _ => 0) 0 9999 (fun _ _ => 0) (fun _ => 0) m1 := K_goB K (Or.inr rfl) (by decide +kernel)
  refine zgoI e (by decide) ?_
  have e := K_place (a := 0) (b := 1) K (by decide)
  refine zgoI e (by decide +kernel) ?_
  have e := K_walking (a := 0) K (by decide)
  refine zgoJ e (by decide +kernel) ?_
  have e := K_at (a := 0) (b := 5) (c := 1) K (by decide) (by decide +kernel)
  refine zgoI e (by decide +kernel) ?_
  have e := K_at (a := 0) (b := 10) (c := 2) K (by decide) (by decide +kernel)
  refine zgoI e (by decide +kernel) ?_
  exact zgoE K
def qd_so16 : Nat → Nat := zUp qd_so11 1 1
def qd_co17 : Nat → Int := zUp qd_co12 1 10
def qd_te18 : Nat → Int := zUp qd_te13 1 120
def qd_lt19 : Nat → Bool := zUp qd_lt14 1 true
def qd_go20 : Nat → Nat → Nat := fun i d => ((([[0, 1, 2], [2, 1, 0]] : List (List Nat)).getD i []).getD d 0)
def qd_so21 : Nat → Nat := zUp qd_so16 2 1
def qd_co22 : Nat → Int := zUp qd_co17 2 10
def qd_te23 : Nat → Int := zUp qd_te18 2 120
def qd_lt24 : Nat → Bool := zUp qd_lt19 2 false
def qd_go25 : Nat → Nat → Nat := fun i d => ((([[0, 1, 2], [2, 1, 0], [0, 1, 2]] : List (List Nat)).getD i []).getD d 0)
theorem pL_drills252 {m : dM} (K : zK 3 5 1 0 (fun _ => 14) (fun _ => -1) (fun _ => false) (fun _ => false) qd_sx9 qd_sy10 qd_so11 qd_co12 qd_te13 qd_lt14 qd_go15 (fun _ _ => 0) (fun _ _ => 0) 0 9999 (fun _ _ => 0) (fun _ => 0) m) : ∃ r, fL_drills252 m = some r ∧ zK 3 5 3 0 (fun _ => 14) (fun _ => -1) (fun _ => false) (fun _ => false) qd_sx9 qd_sy10 qd_so21 qd_co22 qd_te23 qd_lt24 qd_go25 (fun _ _ => 0) (fun _ _ => 0) 0 9999 (fun _ _ => 0) (fun _ => 0) r := by
  unfold fL_drills252
  obtain ⟨m1, e, K⟩ := fault_ok (k := 0) (n := 10) (qq := none) (c := (-1)) (d := (-1)) (e := (-1)) (f := (-1)) K (by decide) rfl (by decide +kernel) (by decide) (by decide) (by decide) (by decide)
  refine zgoF e ?_
  obtain ⟨m1, go', e, K⟩ := K_part (a := 1) (c := 10) (t := 120) K true (by decide) (by decide) (by decide) (by decide)
  have K : zK 3 5 2 0 (fun _ => 14) (fun _ => -1) (fun _ => false) (fun _ => false) qd_sx9 qd_sy10 qd_so16 qd_co17 qd_te18 qd_lt19 go' (fun _ _ => 0) (fun _ _ => 0) 0 9999 (fun _ _ => 0) (fun _ => 0) m1 := K
  have K : zK 3 5 2 0 (fun _ => 14) (fun _ => -1) (fun _ => false) (fun _ => false) qd_sx9 qd_sy10 qd_so16 qd_co17 qd_te18 qd_lt19 qd_go20 (fun _ _ => 0) (fun _ _ => 0) 0 9999 (fun _ _ => 0) (fun _ => 0) m1 := K_goB K (Or.inr rfl) (by decide +kernel)
  refine zgoI e (by decide) ?_
  have e := K_walking (a := 1) K (by decide)
  refine zgoJ e (by decide +kernel) ?_
  have e := K_place (a := 1) (b := 0) K (by decide)
  refine zgoI e (by decide +kernel) ?_
  have e := K_place (a := 1) (b := 1) K (by decide)
  refine zgoI e (by decide +kernel) ?_
  have e := K_place (a := 1) (b := 2) K (by decide)
  refine zgoI e (by decide +kernel) ?_
  obtain ⟨m1, e, K⟩ := fault_ok (k := 1) (n := 10) (qq := none) (c := (-1)) (d := (-1)) (e := (-1)) (f := (-1)) K (by decide) rfl (by decide +kernel) (by decide) (by decide) (by decide) (by decide)
  refine zgoF e ?_
  obtain ⟨m1, go', e, K⟩ := K_part (a := 1) (c := 10) (t := 120) K false (by decide) (by decide) (by decide) (by decide)
  have K : zK 3 5 3 0 (fun _ => 14) (fun _ => -1) (fun _ => false) (fun _ => false) qd_sx9 qd_sy10 qd_so21 qd_co22 qd_te23 qd_lt24 go' (fun _ _ => 0) (fun _ _ => 0) 0 9999 (fun _ _ => 0) (fun _ => 0) m1 := K
  have K : zK 3 5 3 0 (fun _ => 14) (fun _ => -1) (fun _ => false) (fun _ => false) qd_sx9 qd_sy10 qd_so21 qd_co22 qd_te23 qd_lt24 qd_go25 (fun _ _ => 0) (fun _ _ => 0) 0 9999 (fun _ _ => 0) (fun _ => 0) m1 := K_goB K (Or.inr rfl) (by decide +kernel)
  refine zgoI e (by decide) ?_
  have e := K_walking (a := 2) K (by decide)
  refine zgoJ e (by decide +kernel) ?_
  exact zgoE K
def qd_il26 : Nat → Bool := zUp (fun _ => false) 1 true
def qd_kn27 : Nat → Int := zUp (fun _ => -1) 0 1
def qd_io28 : Nat → Bool := zUp (fun _ => false) 0 false
def qd_il29 : Nat → Bool := zUp qd_il26 1 true
theorem pL_drills355 {m : dM} (K : zK 3 5 3 0 (fun _ => 14) (fun _ => -1) (fun _ => false) (fun _ => false) qd_sx9 qd_sy10 qd_so21 qd_co22 qd_te23 qd_lt24 qd_go25 (fun _ _ => 0) (fun _ _ => 0) 0 9999 (fun _ _ => 0) (fun _ => 0) m) : ∃ r, fL_drills355 m = some r ∧ zK 3 5 3 0 (fun _ => 14) qd_kn27 qd_il29 qd_io28 qd_sx9 qd_sy10 qd_so21 qd_co22 qd_te23 qd_lt24 qd_go25 (fun _ _ => 0) (fun _ _ => 0) 0 9999 (fun _ _ => 0) (fun _ => 0) r := by
  unfold fL_drills355
  have e := K_at (a := 2) (b := 3) (c := 2) K (by decide) (by decide +kernel)
  refine zgoI e (by decide +kernel) ?_
  have e := K_at (a := 2) (b := 0) (c := 2) K (by decide) (by decide +kernel)
  refine zgoI e (by decide +kernel) ?_
  have e := K_at (a := 2) (b := 10) (c := 2) K (by decide) (by decide +kernel)
  refine zgoI e (by decide +kernel) ?_
  obtain ⟨m1, e, K⟩ := fault_ok (k := 2) (n := 10) (qq := (some (5, 101))) (c := (5)) (d := (1)) (e := (0)) (f := (1)) K (by decide) rfl (by decide +kernel) (by decide) (by decide) (by decide) (by decide)
  refine zgoF e ?_
  obtain ⟨m1, e, K⟩ := K_ill (a := 1) K true (by decide)
  have K : zK 3 5 3 0 (fun _ => 14) (fun _ => -1) qd_il26 (fun _ => false) qd_sx9 qd_sy10 qd_so21 qd_co22 qd_te23 qd_lt24 qd_go25 (fun _ _ => 0) (fun _ _ => 0) 0 9999 (fun _ _ => 0) (fun _ => 0) m1 := K
  refine zgoI e (by decide +kernel) ?_
  obtain ⟨m1, e, K⟩ := fault_ok (k := 2) (n := 10) (qq := (some (5, 102))) (c := (5)) (d := (1)) (e := (0)) (f := (2)) K (by decide) rfl (by decide +kernel) (by decide) (by decide) (by decide) (by decide)
  refine zgoF e ?_
  obtain ⟨m1, e, K⟩ := g3 (a := 0) (b := 1) (c := 0) (d := 0) K false (by decide) (by decide) (by decide)
  have K : zK 3 5 3 0 (fun _ => 14) qd_kn27 qd_il26 qd_io28 qd_sx9 qd_sy10 qd_so21 qd_co22 qd_te23 qd_lt24 qd_go25 (fun _ _ => 0) (fun _ _ => 0) 0 9999 (fun _ _ => 0) (fun _ => 0) m1 := K
  refine zgoA e rfl ?_
  obtain ⟨m1, e, K⟩ := K_ill (a := 1) K true (by decide)
  have K : zK 3 5 3 0 (fun _ => 14) qd_kn27 qd_il29 qd_io28 qd_sx9 qd_sy10 qd_so21 qd_co22 qd_te23 qd_lt24 qd_go25 (fun _ _ => 0) (fun _ _ => 0) 0 9999 (fun _ _ => 0) (fun _ => 0) m1 := K
  refine zgoN e (by decide +kernel) ?_
  obtain ⟨m1, e, K⟩ := fault_ok (k := 2) (n := 10) (qq := (some (5, 101))) (c := (5)) (d := (1)) (e := (0)) (f := (1)) K (by decide) rfl (by decide +kernel) (by decide) (by decide) (by decide) (by decide)
  refine zgoF e ?_
  exact zgoE K
def qd_kn30 : Nat → Int := zUp qd_kn27 0 1
def qd_io31 : Nat → Bool := zUp qd_io28 0 true
def qd_il32 : Nat → Bool := zUp qd_il29 1 true
def qd_kn33 : Nat → Int := zUp qd_kn30 0 (-1)
def qd_io34 : Nat → Bool := zUp qd_io31 0 false
def qd_il35 : Nat → Bool := zUp qd_il32 1 true
def qd_il36 : Nat → Bool := zUp qd_il35 1 false
def qd_so37 : Nat → Nat := zUp qd_so21 3 0
def qd_co38 : Nat → Int := zUp qd_co22 3 10
def qd_te39 : Nat → Int := zUp qd_te23 3 240
def qd_lt40 : Nat → Bool := zUp qd_lt24 3 false
def qd_go41 : Nat → Nat → Nat := fun i d => ((([[0, 1, 2], [2, 1, 0], [0, 1, 2], [0, 1, 2]] : List (List Nat)).getD i []).getD d 0)
def qd_le42 : Nat → Int := zUp (fun _ => 14) 0 40
theorem pL_drills458 {m : dM} (K : zK 3 5 3 0 (fun _ => 14) qd_kn27 qd_il29 qd_io28 qd_sx9 qd_sy10 qd_so21 qd_co22 qd_te23 qd_lt24 qd_go25 (fun _ _ => 0) (fun _ _ => 0) 0 9999 (fun _ _ => 0) (fun _ => 0) m) : ∃ r, fL_drills458 m = some r ∧ zK 3 5 4 0 qd_le42 qd_kn33 qd_il36 qd_io34 qd_sx9 qd_sy10 qd_so37 qd_co38 qd_te39 qd_lt40 qd_go41 (fun _ _ => 0) (fun _ _ => 0) 0 9999 (fun _ _ => 0) (fun _ => 0) r := by
  unfold fL_drills458
  obtain ⟨m1, e, K⟩ := g3 (a := 0) (b := 1) (c := 1) (d := 0) K true (by decide) (by decide) (by decide)
  have K : zK 3 5 3 0 (fun _ => 14) qd_kn30 qd_il29 qd_io31 qd_sx9 qd_sy10 qd_so21 qd_co22 qd_te23 qd_lt24 qd_go25 (fun _ _ => 0) (fun _ _ => 0) 0 9999 (fun _ _ => 0) (fun _ => 0) m1 := K
  refine zgoA e rfl ?_
  obtain ⟨m1, e, K⟩ := K_ill (a := 1) K true (by decide)
  have K : zK 3 5 3 0 (fun _ => 14) qd_kn30 qd_il32 qd_io31 qd_sx9 qd_sy10 qd_so21 qd_co22 qd_te23 qd_lt24 qd_go25 (fun _ _ => 0) (fun _ _ => 0) 0 9999 (fun _ _ => 0) (fun _ => 0) m1 := K
  refine zgoI e (by decide +kernel) ?_
  obtain ⟨m1, e, K⟩ := g3 (a := 0) (b := (-1)) (c := 0) (d := 0) K false (by decide) (by decide) (by decide)
  have K : zK 3 5 3 0 (fun _ => 14) qd_kn33 qd_il32 qd_io34 qd_sx9 qd_sy10 qd_so21 qd_co22 qd_te23 qd_lt24 qd_go25 (fun _ _ => 0) (fun _ _ => 0) 0 9999 (fun _ _ => 0) (fun _ => 0) m1 := K
  refine zgoA e rfl ?_
  obtain ⟨m1, e, K⟩ := K_ill (a := 1) K true (by decide)
  have K : zK 3 5 3 0 (fun _ => 14) qd_kn33 qd_il35 qd_io34 qd_sx9 qd_sy10 qd_so21 qd_co22 qd_te23 qd_lt24 qd_go25 (fun _ _ => 0) (fun _ _ => 0) 0 9999 (fun _ _ => 0) (fun _ => 0) m1 := K
  refine zgoI e (by decide +kernel) ?_
  obtain ⟨m1, e, K⟩ := K_ill (a := 1) K false (by decide)
  have K : zK 3 5 3 0 (fun _ => 14) qd_kn33 qd_il36 qd_io34 qd_sx9 qd_sy10 qd_so21 qd_co22 qd_te23 qd_lt24 qd_go25 (fun _ _ => 0) (fun _ _ => 0) 0 9999 (fun _ _ => 0) (fun _ => 0) m1 := K
  refine zgoN e (by decide +kernel) ?_
  obtain ⟨m1, go', e, K⟩ := K_part (a := 0) (c := 10) (t := 240) K false (by decide) (by decide) (by decide) (by decide)
  have K : zK 3 5 4 0 (fun _ => 14) qd_kn33 qd_il36 qd_io34 qd_sx9 qd_sy10 qd_so37 qd_co38 qd_te39 qd_lt40 go' (fun _ _ => 0) (fun _ _ => 0) 0 9999 (fun _ _ => 0) (fun _ => 0) m1 := K
  have K : zK 3 5 4 0 (fun _ => 14) qd_kn33 qd_il36 qd_io34 qd_sx9 qd_sy10 qd_so37 qd_co38 qd_te39 qd_lt40 qd_go41 (fun _ _ => 0) (fun _ _ => 0) 0 9999 (fun _ _ => 0) (fun _ => 0) m1 := K_goB K (Or.inr rfl) (by decide +kernel)
  refine zgoI e (by decide) ?_
  obtain ⟨m1, e, K⟩ := fault_ok (k := 3) (n := 10) (qq := (some (1, 0))) (c := (1)) (d := (0)) (e := (0)) (f := (-1)) K (by decide) rfl (by decide +kernel) (by decide) (by decide) (by decide) (by decide)
  refine zgoF e ?_
  obtain ⟨m1, e, K⟩ := K_legs (a := 0) (b := 40) K (by decide) (by decide)
  have K : zK 3 5 4 0 qd_le42 qd_kn33 qd_il36 qd_io34 qd_sx9 qd_sy10 qd_so37 qd_co38 qd_te39 qd_lt40 qd_go41 (fun _ _ => 0) (fun _ _ => 0) 0 9999 (fun _ _ => 0) (fun _ => 0) m1 := K
  refine zgoI e (by decide +kernel) ?_
  obtain ⟨m1, e, K⟩ := fault_ok (k := 3) (n := 10) (qq := (some (1, 2))) (c := (1)) (d := (0)) (e := (2)) (f := (-1)) K (by decide) rfl (by decide +kernel) (by decide) (by decide) (by decide) (by decide)
  refine zgoF e ?_
  exact zgoE K
def qd_so43 : Nat → Nat := zUp qd_so37 3 0
def qd_co44 : Nat → Int := zUp qd_co38 3 20
def qd_te45 : Nat → Int := zUp qd_te39 3 240
def qd_lt46 : Nat → Bool := zUp qd_lt40 3 true
def qd_go47 : Nat → Nat → Nat := fun i d => ((([[0, 1, 2], [2, 1, 0], [0, 1, 2], [2, 1, 0]] : List (List Nat)).getD i []).getD d 0)
def qd_so48 : Nat → Nat := zUp qd_so43 0 3
def qd_co49 : Nat → Int := zUp qd_co44 0 4
def qd_te50 : Nat → Int := zUp qd_te45 0 60
def qd_lt51 : Nat → Bool := zUp qd_lt46 0 true
def qd_go52 : Nat → Nat → Nat := fun i d => ((([[0, 1, 2], [2, 0, 1], [0, 1, 2], [2, 1, 0]] : List (List Nat)).getD i []).getD d 0)
theorem pL_drills566 {m : dM} (K : zK 3 5 4 0 qd_le42 qd_kn33 qd_il36 qd_io34 qd_sx9 qd_sy10 qd_so37 qd_co38 qd_te39 qd_lt40 qd_go41 (fun _ _ => 0) (fun _ _ => 0) 0 9999 (fun _ _ => 0) (fun _ => 0) m) : ∃ r, fL_drills566 m = some r ∧ zK 3 5 4 0 qd_le42 qd_kn33 qd_il36 qd_io34 qd_sx9 qd_sy10 qd_so48 qd_co49 qd_te50 qd_lt51 qd_go52 (fun _ _ => 0) (fun _ _ => 0) 0 9999 (fun _ _ => 0) (fun _ => 0) r := by
  unfold fL_drills566
  obtain ⟨m1, go', e, K⟩ := g8 (a := 3) (b := 0) (c := 20) (d := 240) K (by decide) (by decide) (by decide) (by decide)
  have K : zK 3 5 4 0 qd_le42 qd_kn33 qd_il36 qd_io34 qd_sx9 qd_sy10 qd_so43 qd_co44 qd_te45 qd_lt46 go' (fun _ _ => 0) (fun _ _ => 0) 0 9999 (fun _ _ => 0) (fun _ => 0) m1 := K
  have K : zK 3 5 4 0 qd_le42 qd_kn33 qd_il36 qd_io34 qd_sx9 qd_sy10 qd_so43 qd_co44 qd_te45 qd_lt46 qd_go47 (fun _ _ => 0) (fun _ _ => 0) 0 9999 (fun _ _ => 0) (fun _ => 0) m1 := K_goB K (Or.inr rfl) (by decide +kernel)
  refine zgoA e rfl ?_
  have e := K_place (a := 3) (b := 0) K (by decide)
  refine zgoI e (by decide +kernel) ?_
  obtain ⟨m1, e, K⟩ := fault_ok (k := 3) (n := 20) (qq := none) (c := (-1)) (d := (-1)) (e := (-1)) (f := (-1)) K (by decide) rfl (by decide +kernel) (by decide) (by decide) (by decide) (by decide)
  refine zgoF e ?_
  have e := K_walking (a := 3) K (by decide)
  refine zgoJ e (by decide +kernel) ?_
  obtain ⟨m1, go', e, K⟩ := g8 (a := 0) (b := 3) (c := 4) (d := 60) K (by decide) (by decide) (by decide) (by decide)
  have K : zK 3 5 4 0 qd_le42 qd_kn33 qd_il36 qd_io34 qd_sx9 qd_sy10 qd_so48 qd_co49 qd_te50 qd_lt51 go' (fun _ _ => 0) (fun _ _ => 0) 0 9999 (fun _ _ => 0) (fun _ => 0) m1 := K
  have K : zK 3 5 4 0 qd_le42 qd_kn33 qd_il36 qd_io34 qd_sx9 qd_sy10 qd_so48 qd_co49 qd_te50 qd_lt51 qd_go52 (fun _ _ => 0) (fun _ _ => 0) 0 9999 (fun _ _ => 0) (fun _ => 0) m1 := K_goB K (Or.inr rfl) (by decide +kernel)
  refine zgoA e rfl ?_
  have e := K_at (a := 0) (b := 0) (c := 2) K (by decide) (by decide +kernel)
  refine zgoI e (by decide +kernel) ?_
  have e := K_place (a := 1) (b := 0) K (by decide)
  refine zgoI e (by decide +kernel) ?_
  have e := K_walking (a := 1) K (by decide)
  refine zgoJ e (by decide +kernel) ?_
  have e := K_place (a := 1) (b := 1) K (by decide)
  refine zgoI e (by decide +kernel) ?_
  exact zgoE K
def qd_so53 : Nat → Nat := zUp qd_so48 4 4
def qd_co54 : Nat → Int := zUp qd_co49 4 64
def qd_te55 : Nat → Int := zUp qd_te50 4 60
def qd_lt56 : Nat → Bool := zUp qd_lt51 4 false
def qd_go57 : Nat → Nat → Nat := fun i d => ((([[0, 1, 2], [2, 0, 1], [0, 1, 2], [2, 1, 0], [0, 1, 2]] : List (List Nat)).getD i []).getD d 0)
def qd_so58 : Nat → Nat := zUp qd_so53 5 2
def qd_co59 : Nat → Int := zUp qd_co54 5 64
def qd_te60 : Nat → Int := zUp qd_te55 5 60
def qd_lt61 : Nat → Bool := zUp qd_lt56 5 true
def qd_go62 : Nat → Nat → Nat := fun i d => ((([[0, 1, 2], [2, 0, 1], [0, 1, 2], [2, 1, 0], [0, 1, 2], [1, 2, 0]] : List (List Nat)).getD i []).getD d 0)
theorem pL_drills678 {m : dM} (K : zK 3 5 4 0 qd_le42 qd_kn33 qd_il36 qd_io34 qd_sx9 qd_sy10 qd_so48 qd_co49 qd_te50 qd_lt51 qd_go52 (fun _ _ => 0) (fun _ _ => 0) 0 9999 (fun _ _ => 0) (fun _ => 0) m) : ∃ r, fL_drills678 m = some r ∧ zK 3 5 6 0 qd_le42 qd_kn33 qd_il36 qd_io34 qd_sx9 qd_sy10 qd_so58 qd_co59 qd_te60 qd_lt61 qd_go62 (fun _ _ => 0) (fun _ _ => 0) 0 9999 (fun _ _ => 0) (fun _ => 0) r := by
  unfold fL_drills678
  have e := K_place (a := 1) (b := 2) K (by decide)
  refine zgoI e (by decide +kernel) ?_
  refine zgoP (K_lasts K) (by decide +kernel) ?_
  obtain ⟨m1, go', e, K⟩ := K_part (a := 4) (c := 64) (t := 60) K false (by decide) (by decide) (by decide) (by decide)
  have K : zK 3 5 5 0 qd_le42 qd_kn33 qd_il36 qd_io34 qd_sx9 qd_sy10 qd_so53 qd_co54 qd_te55 qd_lt56 go' (fun _ _ => 0) (fun _ _ => 0) 0 9999 (fun _ _ => 0) (fun _ => 0) m1 := K
  have K : zK 3 5 5 0 qd_le42 qd_kn33 qd_il36 qd_io34 qd_sx9 qd_sy10 qd_so53 qd_co54 qd_te55 qd_lt56 qd_go57 (fun _ _ => 0) (fun _ _ => 0) 0 9999 (fun _ _ => 0) (fun _ => 0) m1 := K_goB K (Or.inr rfl) (by decide +kernel)
  refine zgoI e (by decide) ?_
  have e := K_at (a := 4) (b := 64) (c := 1) K (by decide) (by decide +kernel)
  refine zgoI e (by decide +kernel) ?_
  have e := K_at (a := 4) (b := 64) (c := 2) K (by decide) (by decide +kernel)
  refine zgoI e (by decide +kernel) ?_
  obtain ⟨m1, go', e, K⟩ := K_part (a := 2) (c := 64) (t := 60) K true (by decide) (by decide) (by decide) (by decide)
  have K : zK 3 5 6 0 qd_le42 qd_kn33 qd_il36 qd_io34 qd_sx9 qd_sy10 qd_so58 qd_co59 qd_te60 qd_lt61 go' (fun _ _ => 0) (fun _ _ => 0) 0 9999 (fun _ _ => 0) (fun _ => 0) m1 := K
  have K : zK 3 5 6 0 qd_le42 qd_kn33 qd_il36 qd_io34 qd_sx9 qd_sy10 qd_so58 qd_co59 qd_te60 qd_lt61 qd_go62 (fun _ _ => 0) (fun _ _ => 0) 0 9999 (fun _ _ => 0) (fun _ => 0) m1 := K_goB K (Or.inr rfl) (by decide +kernel)
  refine zgoI e (by decide) ?_
  have e := K_place (a := 5) (b := 0) K (by decide)
  refine zgoI e (by decide +kernel) ?_
  have e := K_place (a := 5) (b := 1) K (by decide)
  refine zgoI e (by decide +kernel) ?_
  have e := K_at (a := 5) (b := 64) (c := 0) K (by decide) (by decide +kernel)
  refine zgoI e (by decide +kernel) ?_
  exact zgoE K
theorem drills_ok : ∃ r, fL_drills dI = some r := by
  suffices q : ∃ r, fL_drills dI = some r ∧ True by obtain ⟨r, h, -⟩ := q; exact ⟨r, h⟩
  have K := K_dI
  unfold fL_drills
  obtain ⟨m1, e, K⟩ := pL_drills8 K
  refine zgoF e ?_
  obtain ⟨m1, e, K⟩ := pL_drills120 K
  refine zgoF e ?_
  obtain ⟨m1, e, K⟩ := pL_drills252 K
  refine zgoF e ?_
  obtain ⟨m1, e, K⟩ := pL_drills355 K
  refine zgoF e ?_
  obtain ⟨m1, e, K⟩ := pL_drills458 K
  refine zgoF e ?_
  obtain ⟨m1, e, K⟩ := pL_drills566 K
  refine zgoF e ?_
  obtain ⟨m1, e, K⟩ := pL_drills678 K
  refine zgoF e ?_
  have e := K_at (a := 5) (b := 64) (c := 1) K (by decide) (by decide +kernel)
  refine zgoI e (by decide +kernel) ?_
  have e := K_at (a := 5) (b := 64) (c := 2) K (by decide) (by decide +kernel)
  refine zgoI e (by decide +kernel) ?_
  obtain ⟨m1, e, K⟩ := K_cut (P := 0) (P' := 5) K
  have K : zK 3 5 5 0 qd_le42 qd_kn33 qd_il36 qd_io34 qd_sx9 qd_sy10 qd_so58 qd_co59 qd_te60 qd_lt61 qd_go62 (fun _ _ => 0) (fun _ _ => 0) 0 9999 (fun _ _ => 0) (fun _ => 0) m1 := K
  refine zgoI e (by decide) ?_
  obtain ⟨m1, e, K⟩ := K_cut (P := 0) (P' := 4) K
  have K : zK 3 5 4 0 qd_le42 qd_kn33 qd_il36 qd_io34 qd_sx9 qd_sy10 qd_so58 qd_co59 qd_te60 qd_lt61 qd_go62 (fun _ _ => 0) (fun _ _ => 0) 0 9999 (fun _ _ => 0) (fun _ => 0) m1 := K
  refine zgoI e (by decide) ?_
  obtain ⟨m1, e, K⟩ := refuses_ok (zc := 4) K (fun _ => by decide +kernel)
  refine zgoF e ?_
  exact zgoE trivial
