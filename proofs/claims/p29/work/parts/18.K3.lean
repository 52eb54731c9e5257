/-! the law's wrappers -/
def zCt {α : Type} (f : α → Int64) (r : (Nat × dM) ⊕ (α × dM)) : Option (Int64 × dM) := dS r (fun x => dP2 x (fun kx mx => if kx = 3 then some ((-71), mx) else if kx = 1 then some ((-72), mx) else if kx = 2 then some ((-73), mx) else none)) (fun q => dP2 q (fun v m => some (f v, m)))
theorem zCt3 {α : Type} {f : α → Int64} {m' : dM} : zCt f (.inl (3, m')) = some (-71, m') := rfl
theorem zCt1 {α : Type} {f : α → Int64} {m' : dM} : zCt f (.inl (1, m')) = some (-72, m') := rfl
theorem zCt2 {α : Type} {f : α → Int64} {m' : dM} : zCt f (.inl (2, m')) = some (-73, m') := rfl
theorem zCtr {α : Type} {f : α → Int64} {x : α} {m' : dM} : zCt f (.inr (x, m')) = some (f x, m') := rfl
theorem fL_band_eq {m : dM} {a : Int32} : fL_band m 0 a = (fX11_band m 0 a).bind (fun q => dS q (fun x => some (.inl x)) (fun m2 => some (.inr (1, m2)))) := by unfold fL_band; rw [dg_ok kF]
theorem fL_alternate_eq {m : dM} {a b c : Int32} : fL_alternate m 0 a b c = (fX11_alternate m 0 a b c).bind (fun q => dS q (fun x => some (.inl x)) (fun m2 => some (.inr (1, m2)))) := by unfold fL_alternate; rw [dg_ok kF]
theorem fL_clock_eq {m : dM} {a b : Int32} : fL_clock m 0 a b = (fX11_clock m 0 a b).bind (fun q => dS q (fun x => some (.inl x)) (fun m2 => some (.inr (1, m2)))) := by unfold fL_clock; rw [dg_ok kF]
theorem fL_change_eq {m : dM} {a b c d : Int32} : fL_change m 0 a b c d = (fX11_change m 0 a b c d 1).bind (fun q => dS q (fun x => some (.inl x)) (fun m2 => some (.inr (1, m2)))) := by unfold fL_change; rw [dg_ok kF]
theorem act0 {m : dM} {a b c d : Int32} : fL_act m 0 0 a b c d = (fL_band m 0 a).bind (zCt Int32.toInt64) := by
  unfold fL_act
  rw [dg_ok kF, if_pos rfl]
  rfl
theorem act1 {m : dM} {a b c d : Int32} : fL_act m 0 1 a b c d = (fX11_legs m 0 a b).bind (zCt Int32.toInt64) := by
  unfold fL_act
  rw [dg_ok kF, if_neg (show ¬ (1 : Int32) = 0 by decide), if_pos rfl]
  rfl
theorem act4 {m : dM} {a b c d : Int32} : fL_act m 0 4 a b c d = (fX11_line m 0 a b c d).bind (zCt Int32.toInt64) := by
  unfold fL_act
  rw [dg_ok kF, if_neg (show ¬ (4 : Int32) = 0 by decide), if_neg (show ¬ (4 : Int32) = 1 by decide), if_neg (show ¬ (4 : Int32) = 2 by decide), if_neg (show ¬ (4 : Int32) = 3 by decide), if_pos rfl]
  rfl
theorem act5 {m : dM} {a b c d : Int32} : fL_act m 0 5 a b c d = (fX11_block m 0 a b c d).bind (zCt Int32.toInt64) := by
  unfold fL_act
  rw [dg_ok kF, if_neg (show ¬ (5 : Int32) = 0 by decide), if_neg (show ¬ (5 : Int32) = 1 by decide), if_neg (show ¬ (5 : Int32) = 2 by decide), if_neg (show ¬ (5 : Int32) = 3 by decide), if_neg (show ¬ (5 : Int32) = 4 by decide), if_pos rfl]
  rfl
theorem act6 {m : dM} {a b c d : Int32} : fL_act m 0 6 a b c d = (fX11_wedge m 0 a b c).bind (zCt Int32.toInt64) := by
  unfold fL_act
  rw [dg_ok kF, if_neg (show ¬ (6 : Int32) = 0 by decide), if_neg (show ¬ (6 : Int32) = 1 by decide), if_neg (show ¬ (6 : Int32) = 2 by decide), if_neg (show ¬ (6 : Int32) = 3 by decide), if_neg (show ¬ (6 : Int32) = 4 by decide), if_neg (show ¬ (6 : Int32) = 5 by decide), if_pos rfl]
  rfl
theorem act8 {m : dM} {a b c d : Int32} : fL_act m 0 8 a b c d = (fL_change m 0 a b c d).bind (zCt Int32.toInt64) := by
  unfold fL_act
  rw [dg_ok kF, if_neg (show ¬ (8 : Int32) = 0 by decide), if_neg (show ¬ (8 : Int32) = 1 by decide), if_neg (show ¬ (8 : Int32) = 2 by decide), if_neg (show ¬ (8 : Int32) = 3 by decide), if_neg (show ¬ (8 : Int32) = 4 by decide), if_neg (show ¬ (8 : Int32) = 5 by decide), if_neg (show ¬ (8 : Int32) = 6 by decide), if_neg (show ¬ (8 : Int32) = 7 by decide), if_pos rfl]
  rfl
theorem act9 {m : dM} {a b c d : Int32} : fL_act m 0 9 a b c d = (fX11_cut m 0).bind (zCt Int32.toInt64) := by
  unfold fL_act
  rw [dg_ok kF, if_neg (show ¬ (9 : Int32) = 0 by decide), if_neg (show ¬ (9 : Int32) = 1 by decide), if_neg (show ¬ (9 : Int32) = 2 by decide), if_neg (show ¬ (9 : Int32) = 3 by decide), if_neg (show ¬ (9 : Int32) = 4 by decide), if_neg (show ¬ (9 : Int32) = 5 by decide), if_neg (show ¬ (9 : Int32) = 6 by decide), if_neg (show ¬ (9 : Int32) = 7 by decide), if_neg (show ¬ (9 : Int32) = 8 by decide), if_pos rfl]
  rfl
theorem act10 {m : dM} {a b c d : Int32} : fL_act m 0 10 a b c d = (fX11_place m 0 a b).bind (zCt Int32.toInt64) := by
  unfold fL_act
  rw [dg_ok kF, if_neg (show ¬ (10 : Int32) = 0 by decide), if_neg (show ¬ (10 : Int32) = 1 by decide), if_neg (show ¬ (10 : Int32) = 2 by decide), if_neg (show ¬ (10 : Int32) = 3 by decide), if_neg (show ¬ (10 : Int32) = 4 by decide), if_neg (show ¬ (10 : Int32) = 5 by decide), if_neg (show ¬ (10 : Int32) = 6 by decide), if_neg (show ¬ (10 : Int32) = 7 by decide), if_neg (show ¬ (10 : Int32) = 8 by decide), if_neg (show ¬ (10 : Int32) = 9 by decide), if_pos rfl]
  rfl
theorem act11 {m : dM} {a b c d : Int32} : fL_act m 0 11 a b c d = (fX11_walking m 0 a).bind (zCt (fun v => v)) := by
  unfold fL_act
  rw [dg_ok kF, if_neg (show ¬ (11 : Int32) = 0 by decide), if_neg (show ¬ (11 : Int32) = 1 by decide), if_neg (show ¬ (11 : Int32) = 2 by decide), if_neg (show ¬ (11 : Int32) = 3 by decide), if_neg (show ¬ (11 : Int32) = 4 by decide), if_neg (show ¬ (11 : Int32) = 5 by decide), if_neg (show ¬ (11 : Int32) = 6 by decide), if_neg (show ¬ (11 : Int32) = 7 by decide), if_neg (show ¬ (11 : Int32) = 8 by decide), if_neg (show ¬ (11 : Int32) = 9 by decide), if_neg (show ¬ (11 : Int32) = 10 by decide), if_pos rfl]
  rfl
theorem act12 {m : dM} {a b c d : Int32} : fL_act m 0 12 a b c d = (fX11_at m 0 a b c).bind (zCt Int32.toInt64) := by
  unfold fL_act
  rw [dg_ok kF, if_neg (show ¬ (12 : Int32) = 0 by decide), if_neg (show ¬ (12 : Int32) = 1 by decide), if_neg (show ¬ (12 : Int32) = 2 by decide), if_neg (show ¬ (12 : Int32) = 3 by decide), if_neg (show ¬ (12 : Int32) = 4 by decide), if_neg (show ¬ (12 : Int32) = 5 by decide), if_neg (show ¬ (12 : Int32) = 6 by decide), if_neg (show ¬ (12 : Int32) = 7 by decide), if_neg (show ¬ (12 : Int32) = 8 by decide), if_neg (show ¬ (12 : Int32) = 9 by decide), if_neg (show ¬ (12 : Int32) = 10 by decide), if_neg (show ¬ (12 : Int32) = 11 by decide), if_pos rfl]
  rfl
theorem act13 {m : dM} {a b c d : Int32} : fL_act m 0 13 a b c d = (fX11_fault m 0 a b).bind (zCt Int32.toInt64) := by
  unfold fL_act
  rw [dg_ok kF, if_neg (show ¬ (13 : Int32) = 0 by decide), if_neg (show ¬ (13 : Int32) = 1 by decide), if_neg (show ¬ (13 : Int32) = 2 by decide), if_neg (show ¬ (13 : Int32) = 3 by decide), if_neg (show ¬ (13 : Int32) = 4 by decide), if_neg (show ¬ (13 : Int32) = 5 by decide), if_neg (show ¬ (13 : Int32) = 6 by decide), if_neg (show ¬ (13 : Int32) = 7 by decide), if_neg (show ¬ (13 : Int32) = 8 by decide), if_neg (show ¬ (13 : Int32) = 9 by decide), if_neg (show ¬ (13 : Int32) = 10 by decide), if_neg (show ¬ (13 : Int32) = 11 by decide), if_neg (show ¬ (13 : Int32) = 12 by decide), if_pos rfl]
  rfl
theorem act14 {m : dM} {a b c d : Int32} : fL_act m 0 14 a b c d = (fX11_phase m 0 a b c d).bind (zCt Int32.toInt64) := by
  unfold fL_act
  rw [dg_ok kF, if_neg (show ¬ (14 : Int32) = 0 by decide), if_neg (show ¬ (14 : Int32) = 1 by decide), if_neg (show ¬ (14 : Int32) = 2 by decide), if_neg (show ¬ (14 : Int32) = 3 by decide), if_neg (show ¬ (14 : Int32) = 4 by decide), if_neg (show ¬ (14 : Int32) = 5 by decide), if_neg (show ¬ (14 : Int32) = 6 by decide), if_neg (show ¬ (14 : Int32) = 7 by decide), if_neg (show ¬ (14 : Int32) = 8 by decide), if_neg (show ¬ (14 : Int32) = 9 by decide), if_neg (show ¬ (14 : Int32) = 10 by decide), if_neg (show ¬ (14 : Int32) = 11 by decide), if_neg (show ¬ (14 : Int32) = 12 by decide), if_neg (show ¬ (14 : Int32) = 13 by decide), if_pos rfl]
  rfl
theorem act15 {m : dM} {a b c d : Int32} : fL_act m 0 15 a b c d = (fX11_page m 0 a b c).bind (zCt Int32.toInt64) := by
  unfold fL_act
  rw [dg_ok kF, if_neg (show ¬ (15 : Int32) = 0 by decide), if_neg (show ¬ (15 : Int32) = 1 by decide), if_neg (show ¬ (15 : Int32) = 2 by decide), if_neg (show ¬ (15 : Int32) = 3 by decide), if_neg (show ¬ (15 : Int32) = 4 by decide), if_neg (show ¬ (15 : Int32) = 5 by decide), if_neg (show ¬ (15 : Int32) = 6 by decide), if_neg (show ¬ (15 : Int32) = 7 by decide), if_neg (show ¬ (15 : Int32) = 8 by decide), if_neg (show ¬ (15 : Int32) = 9 by decide), if_neg (show ¬ (15 : Int32) = 10 by decide), if_neg (show ¬ (15 : Int32) = 11 by decide), if_neg (show ¬ (15 : Int32) = 12 by decide), if_neg (show ¬ (15 : Int32) = 13 by decide), if_neg (show ¬ (15 : Int32) = 14 by decide), if_pos rfl]
  rfl
theorem act16 {m : dM} {a b c d : Int32} : fL_act m 0 16 a b c d = (fL_clock m 0 a b).bind (zCt Int32.toInt64) := by
  unfold fL_act
  rw [dg_ok kF, if_neg (show ¬ (16 : Int32) = 0 by decide), if_neg (show ¬ (16 : Int32) = 1 by decide), if_neg (show ¬ (16 : Int32) = 2 by decide), if_neg (show ¬ (16 : Int32) = 3 by decide), if_neg (show ¬ (16 : Int32) = 4 by decide), if_neg (show ¬ (16 : Int32) = 5 by decide), if_neg (show ¬ (16 : Int32) = 6 by decide), if_neg (show ¬ (16 : Int32) = 7 by decide), if_neg (show ¬ (16 : Int32) = 8 by decide), if_neg (show ¬ (16 : Int32) = 9 by decide), if_neg (show ¬ (16 : Int32) = 10 by decide), if_neg (show ¬ (16 : Int32) = 11 by decide), if_neg (show ¬ (16 : Int32) = 12 by decide), if_neg (show ¬ (16 : Int32) = 13 by decide), if_neg (show ¬ (16 : Int32) = 14 by decide), if_neg (show ¬ (16 : Int32) = 15 by decide), if_pos rfl]
  rfl
theorem act17 {m : dM} {a b c d : Int32} : fL_act m 0 17 a b c d = (fX11_judge m 0 a b c).bind (zCt Int32.toInt64) := by
  unfold fL_act
  rw [dg_ok kF, if_neg (show ¬ (17 : Int32) = 0 by decide), if_neg (show ¬ (17 : Int32) = 1 by decide), if_neg (show ¬ (17 : Int32) = 2 by decide), if_neg (show ¬ (17 : Int32) = 3 by decide), if_neg (show ¬ (17 : Int32) = 4 by decide), if_neg (show ¬ (17 : Int32) = 5 by decide), if_neg (show ¬ (17 : Int32) = 6 by decide), if_neg (show ¬ (17 : Int32) = 7 by decide), if_neg (show ¬ (17 : Int32) = 8 by decide), if_neg (show ¬ (17 : Int32) = 9 by decide), if_neg (show ¬ (17 : Int32) = 10 by decide), if_neg (show ¬ (17 : Int32) = 11 by decide), if_neg (show ¬ (17 : Int32) = 12 by decide), if_neg (show ¬ (17 : Int32) = 13 by decide), if_neg (show ¬ (17 : Int32) = 14 by decide), if_neg (show ¬ (17 : Int32) = 15 by decide), if_neg (show ¬ (17 : Int32) = 16 by decide), if_pos rfl]
  rfl
theorem act18 {m : dM} {a b c d : Int32} : fL_act m 0 18 a b c d = (fX11_penalty m 0 a b).bind (zCt Int32.toInt64) := by
  unfold fL_act
  rw [dg_ok kF, if_neg (show ¬ (18 : Int32) = 0 by decide), if_neg (show ¬ (18 : Int32) = 1 by decide), if_neg (show ¬ (18 : Int32) = 2 by decide), if_neg (show ¬ (18 : Int32) = 3 by decide), if_neg (show ¬ (18 : Int32) = 4 by decide), if_neg (show ¬ (18 : Int32) = 5 by decide), if_neg (show ¬ (18 : Int32) = 6 by decide), if_neg (show ¬ (18 : Int32) = 7 by decide), if_neg (show ¬ (18 : Int32) = 8 by decide), if_neg (show ¬ (18 : Int32) = 9 by decide), if_neg (show ¬ (18 : Int32) = 10 by decide), if_neg (show ¬ (18 : Int32) = 11 by decide), if_neg (show ¬ (18 : Int32) = 12 by decide), if_neg (show ¬ (18 : Int32) = 13 by decide), if_neg (show ¬ (18 : Int32) = 14 by decide), if_neg (show ¬ (18 : Int32) = 15 by decide), if_neg (show ¬ (18 : Int32) = 16 by decide), if_neg (show ¬ (18 : Int32) = 17 by decide), if_pos rfl]
  rfl
theorem act19 {m : dM} {a b c d : Int32} : fL_act m 0 19 a b c d = (fX11_ranked m 0 a).bind (zCt Int32.toInt64) := by
  unfold fL_act
  rw [dg_ok kF, if_neg (show ¬ (19 : Int32) = 0 by decide), if_neg (show ¬ (19 : Int32) = 1 by decide), if_neg (show ¬ (19 : Int32) = 2 by decide), if_neg (show ¬ (19 : Int32) = 3 by decide), if_neg (show ¬ (19 : Int32) = 4 by decide), if_neg (show ¬ (19 : Int32) = 5 by decide), if_neg (show ¬ (19 : Int32) = 6 by decide), if_neg (show ¬ (19 : Int32) = 7 by decide), if_neg (show ¬ (19 : Int32) = 8 by decide), if_neg (show ¬ (19 : Int32) = 9 by decide), if_neg (show ¬ (19 : Int32) = 10 by decide), if_neg (show ¬ (19 : Int32) = 11 by decide), if_neg (show ¬ (19 : Int32) = 12 by decide), if_neg (show ¬ (19 : Int32) = 13 by decide), if_neg (show ¬ (19 : Int32) = 14 by decide), if_neg (show ¬ (19 : Int32) = 15 by decide), if_neg (show ¬ (19 : Int32) = 16 by decide), if_neg (show ¬ (19 : Int32) = 17 by decide), if_neg (show ¬ (19 : Int32) = 18 by decide), if_pos rfl]
  rfl
theorem act20 {m : dM} {a b c d : Int32} : fL_act m 0 20 a b c d = (fX11_rehearse m 0 a b).bind (zCt Int32.toInt64) := by
  unfold fL_act
  rw [dg_ok kF, if_neg (show ¬ (20 : Int32) = 0 by decide), if_neg (show ¬ (20 : Int32) = 1 by decide), if_neg (show ¬ (20 : Int32) = 2 by decide), if_neg (show ¬ (20 : Int32) = 3 by decide), if_neg (show ¬ (20 : Int32) = 4 by decide), if_neg (show ¬ (20 : Int32) = 5 by decide), if_neg (show ¬ (20 : Int32) = 6 by decide), if_neg (show ¬ (20 : Int32) = 7 by decide), if_neg (show ¬ (20 : Int32) = 8 by decide), if_neg (show ¬ (20 : Int32) = 9 by decide), if_neg (show ¬ (20 : Int32) = 10 by decide), if_neg (show ¬ (20 : Int32) = 11 by decide), if_neg (show ¬ (20 : Int32) = 12 by decide), if_neg (show ¬ (20 : Int32) = 13 by decide), if_neg (show ¬ (20 : Int32) = 14 by decide), if_neg (show ¬ (20 : Int32) = 15 by decide), if_neg (show ¬ (20 : Int32) = 16 by decide), if_neg (show ¬ (20 : Int32) = 17 by decide), if_neg (show ¬ (20 : Int32) = 18 by decide), if_neg (show ¬ (20 : Int32) = 19 by decide)]
  rfl
theorem act2 {m : dM} {a b c d : Int32} : fL_act m 0 2 a b c d = (fX11_ill m 0 a (if b = 1 then 1 else 0)).bind (zCt (fun v => if v = 0 then 0 else 1)) := by
  unfold fL_act
  rw [dg_ok kF, if_neg (show ¬ (2 : Int32) = 0 by decide), if_neg (show ¬ (2 : Int32) = 1 by decide), if_pos rfl]
  have e : ∀ q : (Nat × dM) ⊕ (Int32 × dM), dS q (fun x => dP2 x (fun kx mx => if kx = 3 then some ((-71 : Int64), mx) else if kx = 1 then some ((-72), mx) else if kx = 2 then some ((-73), mx) else none)) (fun q => dP2 q (fun v88 m86 => if v88 = 0 then some (Int32.toInt64 0, m86) else some (Int32.toInt64 1, m86))) = zCt (fun v => if v = 0 then 0 else 1) q := fun q => by
    rcases q with q | ⟨v, m⟩
    · rfl
    · show (if v = 0 then some (Int32.toInt64 0, m) else some (Int32.toInt64 1, m)) = some ((if v = 0 then 0 else 1), m)
      by_cases h : v = 0
      · rw [if_pos h, if_pos h]; rfl
      · rw [if_neg h, if_neg h]; rfl
  by_cases h : b = 1
  · rw [if_pos h, if_pos h]
    exact congrArg _ (funext e)
  · rw [if_neg h, if_neg h]
    exact congrArg _ (funext e)
theorem act3 {m : dM} {a b c d : Int32} : fL_act m 0 3 a b c d = (fL_alternate m 0 a b (if c = 1 then 1 else 0)).bind (zCt Int32.toInt64) := by
  unfold fL_act
  rw [dg_ok kF, if_neg (show ¬ (3 : Int32) = 0 by decide), if_neg (show ¬ (3 : Int32) = 1 by decide), if_neg (show ¬ (3 : Int32) = 2 by decide), if_pos rfl]
  by_cases h : c = 1
  · rw [if_pos h, if_pos h]; rfl
  · rw [if_neg h, if_neg h]; rfl
theorem act7 {m : dM} {a b c d : Int32} : fL_act m 0 7 a b c d = (fX11_part m 0 a b c (if d = 1 then 1 else 0)).bind (zCt Int32.toInt64) := by
  unfold fL_act
  rw [dg_ok kF, if_neg (show ¬ (7 : Int32) = 0 by decide), if_neg (show ¬ (7 : Int32) = 1 by decide), if_neg (show ¬ (7 : Int32) = 2 by decide), if_neg (show ¬ (7 : Int32) = 3 by decide), if_neg (show ¬ (7 : Int32) = 4 by decide), if_neg (show ¬ (7 : Int32) = 5 by decide), if_neg (show ¬ (7 : Int32) = 6 by decide), if_pos rfl]
  by_cases h : d = 1
  · rw [if_pos h, if_pos h]; rfl
  · rw [if_neg h, if_neg h]; rfl
def zBo (x : Int32) : Bool := decide (x = 1)
theorem zBo_eq (x : Int32) : (if x = 1 then (1 : Int32) else 0) = zB (zBo x) := by unfold zBo zB; by_cases h : x = 1 <;> simp [h]
theorem r0_72 {N S P pp : Nat} {le kn : Nat → Int} {il io : Nat → Bool} {sx sy : Nat → Nat → Int} {so : Nat → Nat} {co te : Nat → Int} {lt : Nat → Bool} {go : Nat → Nat → Nat} {px py : Nat → Nat → Int} {lo hi : Int} {cap : Nat → Nat → Int} {pen : Nat → Int} {m : dM} (K : zK N S P pp le kn il io sx sy so co te lt go px py lo hi cap pen m) {a b c d : Int} (hr : (-2147483648 ≤ a ∧ a < 2147483648) ∧ (-2147483648 ≤ b ∧ b < 2147483648) ∧ (-2147483648 ≤ c ∧ c < 2147483648) ∧ -2147483648 ≤ d ∧ d < 2147483648) (h : ¬ (2 ≤ a ∧ a ≤ 10)) : ∃ m', fL_act m 0 0 (Int32.ofInt a) (Int32.ofInt b) (Int32.ofInt c) (Int32.ofInt d) = some (-72, m') ∧ zK N S P pp le kn il io sx sy so co te lt go px py lo hi cap pen m' := by
  have hN := K.1.2.1
  have hN2 := K.1.1
  have hS := K.2.2.1.1
  have hP := K.2.2.2.2.1.1
  exact ⟨m, by rw [act0, fL_band_eq, fX11_band_ok hS K.2.2.2.1 (by omega) (by omega), if_neg h, Option.bind_some, dS_l, Option.bind_some, zCt1], K⟩
theorem r0_73 {N S P pp : Nat} {le kn : Nat → Int} {il io : Nat → Bool} {sx sy : Nat → Nat → Int} {so : Nat → Nat} {co te : Nat → Int} {lt : Nat → Bool} {go : Nat → Nat → Nat} {px py : Nat → Nat → Int} {lo hi : Int} {cap : Nat → Nat → Int} {pen : Nat → Int} {m : dM} (K : zK N S P pp le kn il io sx sy so co te lt go px py lo hi cap pen m) {a b c d : Int} (hr : (-2147483648 ≤ a ∧ a < 2147483648) ∧ (-2147483648 ≤ b ∧ b < 2147483648) ∧ (-2147483648 ≤ c ∧ c < 2147483648) ∧ -2147483648 ≤ d ∧ d < 2147483648) (h : (2 ≤ a ∧ a ≤ 10) ∧ 0 < S) : ∃ m', fL_act m 0 0 (Int32.ofInt a) (Int32.ofInt b) (Int32.ofInt c) (Int32.ofInt d) = some (-73, m') ∧ zK N S P pp le kn il io sx sy so co te lt go px py lo hi cap pen m' := by
  have hN := K.1.2.1
  have hN2 := K.1.1
  have hS := K.2.2.1.1
  have hP := K.2.2.2.2.1.1
  exact ⟨m, by rw [act0, fL_band_eq, fX11_band_ok hS K.2.2.2.1 (by omega) (by omega), if_pos h.1, if_neg (by omega), Option.bind_some, dS_l, Option.bind_some, zCt2], K⟩
theorem r1_71 {N S P pp : Nat} {le kn : Nat → Int} {il io : Nat → Bool} {sx sy : Nat → Nat → Int} {so : Nat → Nat} {co te : Nat → Int} {lt : Nat → Bool} {go : Nat → Nat → Nat} {px py : Nat → Nat → Int} {lo hi : Int} {cap : Nat → Nat → Int} {pen : Nat → Int} {m : dM} (K : zK N S P pp le kn il io sx sy so co te lt go px py lo hi cap pen m) {a b c d : Int} (hr : (-2147483648 ≤ a ∧ a < 2147483648) ∧ (-2147483648 ≤ b ∧ b < 2147483648) ∧ (-2147483648 ≤ c ∧ c < 2147483648) ∧ -2147483648 ≤ d ∧ d < 2147483648) (h : ¬ (0 ≤ a ∧ a < N)) : ∃ m', fL_act m 0 1 (Int32.ofInt a) (Int32.ofInt b) (Int32.ofInt c) (Int32.ofInt d) = some (-71, m') ∧ zK N S P pp le kn il io sx sy so co te lt go px py lo hi cap pen m' := by
  have hN := K.1.2.1
  have hN2 := K.1.1
  have hS := K.2.2.1.1
  have hP := K.2.2.2.2.1.1
  exact ⟨m, by rw [act1, fX11_legs_ok K.1 K.2.1 (by omega) (by omega) (by omega) (by omega), if_neg h, Option.bind_some, zCt3], K⟩
theorem r1_72 {N S P pp : Nat} {le kn : Nat → Int} {il io : Nat → Bool} {sx sy : Nat → Nat → Int} {so : Nat → Nat} {co te : Nat → Int} {lt : Nat → Bool} {go : Nat → Nat → Nat} {px py : Nat → Nat → Int} {lo hi : Int} {cap : Nat → Nat → Int} {pen : Nat → Int} {m : dM} (K : zK N S P pp le kn il io sx sy so co te lt go px py lo hi cap pen m) {a b c d : Int} (hr : (-2147483648 ≤ a ∧ a < 2147483648) ∧ (-2147483648 ≤ b ∧ b < 2147483648) ∧ (-2147483648 ≤ c ∧ c < 2147483648) ∧ -2147483648 ≤ d ∧ d < 2147483648) (h : (0 ≤ a ∧ a < N) ∧ ¬ (5 ≤ b ∧ b ≤ 40)) : ∃ m', fL_act m 0 1 (Int32.ofInt a) (Int32.ofInt b) (Int32.ofInt c) (Int32.ofInt d) = some (-72, m') ∧ zK N S P pp le kn il io sx sy so co te lt go px py lo hi cap pen m' := by
  have hN := K.1.2.1
  have hN2 := K.1.1
  have hS := K.2.2.1.1
  have hP := K.2.2.2.2.1.1
  exact ⟨m, by rw [act1, fX11_legs_ok K.1 K.2.1 (by omega) (by omega) (by omega) (by omega), if_pos h.1, if_neg h.2, Option.bind_some, zCt1], K⟩
theorem r2_71 {N S P pp : Nat} {le kn : Nat → Int} {il io : Nat → Bool} {sx sy : Nat → Nat → Int} {so : Nat → Nat} {co te : Nat → Int} {lt : Nat → Bool} {go : Nat → Nat → Nat} {px py : Nat → Nat → Int} {lo hi : Int} {cap : Nat → Nat → Int} {pen : Nat → Int} {m : dM} (K : zK N S P pp le kn il io sx sy so co te lt go px py lo hi cap pen m) {a b c d : Int} (hr : (-2147483648 ≤ a ∧ a < 2147483648) ∧ (-2147483648 ≤ b ∧ b < 2147483648) ∧ (-2147483648 ≤ c ∧ c < 2147483648) ∧ -2147483648 ≤ d ∧ d < 2147483648) (h : ¬ (0 ≤ a ∧ a < N)) : ∃ m', fL_act m 0 2 (Int32.ofInt a) (Int32.ofInt b) (Int32.ofInt c) (Int32.ofInt d) = some (-71, m') ∧ zK N S P pp le kn il io sx sy so co te lt go px py lo hi cap pen m' := by
  have hN := K.1.2.1
  have hN2 := K.1.1
  have hS := K.2.2.1.1
  have hP := K.2.2.2.2.1.1
  exact ⟨m, by rw [act2, zBo_eq, fX11_ill_ok K.1 K.2.1 _ (by omega) (by omega), if_neg h, Option.bind_some, zCt3], K⟩
theorem r3_71 {N S P pp : Nat} {le kn : Nat → Int} {il io : Nat → Bool} {sx sy : Nat → Nat → Int} {so : Nat → Nat} {co te : Nat → Int} {lt : Nat → Bool} {go : Nat → Nat → Nat} {px py : Nat → Nat → Int} {lo hi : Int} {cap : Nat → Nat → Int} {pen : Nat → Int} {m : dM} (K : zK N S P pp le kn il io sx sy so co te lt go px py lo hi cap pen m) {a b c d : Int} (hr : (-2147483648 ≤ a ∧ a < 2147483648) ∧ (-2147483648 ≤ b ∧ b < 2147483648) ∧ (-2147483648 ≤ c ∧ c < 2147483648) ∧ -2147483648 ≤ d ∧ d < 2147483648) (h : ¬ ((0 ≤ a ∧ a < 3) ∧ -1 ≤ b ∧ b < N)) : ∃ m', fL_act m 0 3 (Int32.ofInt a) (Int32.ofInt b) (Int32.ofInt c) (Int32.ofInt d) = some (-71, m') ∧ zK N S P pp le kn il io sx sy so co te lt go px py lo hi cap pen m' := by
  have hN := K.1.2.1
  have hN2 := K.1.1
  have hS := K.2.2.1.1
  have hP := K.2.2.2.2.1.1
  exact ⟨m, by rw [act3, zBo_eq, fL_alternate_eq, fX11_alternate_ok K.1 K.2.1 _ (by omega) (by omega) (by omega) (by omega), if_neg h, Option.bind_some, dS_l, Option.bind_some, zCt3], K⟩
theorem r4_72 {N S P pp : Nat} {le kn : Nat → Int} {il io : Nat → Bool} {sx sy : Nat → Nat → Int} {so : Nat → Nat} {co te : Nat → Int} {lt : Nat → Bool} {go : Nat → Nat → Nat} {px py : Nat → Nat → Int} {lo hi : Int} {cap : Nat → Nat → Int} {pen : Nat → Int} {m : dM} (K : zK N S P pp le kn il io sx sy so co te lt go px py lo hi cap pen m) {a b c d : Int} (hr : (-2147483648 ≤ a ∧ a < 2147483648) ∧ (-2147483648 ≤ b ∧ b < 2147483648) ∧ (-2147483648 ≤ c ∧ c < 2147483648) ∧ -2147483648 ≤ d ∧ d < 2147483648) (h : ¬ (((0 ≤ a ∧ a ≤ 1600) ∧ 0 ≤ b ∧ b ≤ 840) ∧ (0 ≤ c ∧ c ≤ 1600) ∧ 0 ≤ d ∧ d ≤ 840)) : ∃ m', fL_act m 0 4 (Int32.ofInt a) (Int32.ofInt b) (Int32.ofInt c) (Int32.ofInt d) = some (-72, m') ∧ zK N S P pp le kn il io sx sy so co te lt go px py lo hi cap pen m' := by
  have hN := K.1.2.1
  have hN2 := K.1.1
  have hS := K.2.2.1.1
  have hP := K.2.2.2.2.1.1
  have q : ¬ (zFd a b = true ∧ zFd c d = true) := fun q => h (by have q1 := zFd_in q.1; have q2 := zFd_in q.2; omega)
  exact ⟨m, by rw [act4, fX11_line_ok K.1 K.2.1 K.2.2.1 K.2.2.2.1 (by omega) (by omega) (by omega) (by omega) (by omega) (by omega) (by omega) (by omega), if_neg q, Option.bind_some, zCt1], K⟩
theorem r5_q {N S P pp : Nat} {le kn : Nat → Int} {il io : Nat → Bool} {sx sy : Nat → Nat → Int} {so : Nat → Nat} {co te : Nat → Int} {lt : Nat → Bool} {go : Nat → Nat → Nat} {px py : Nat → Nat → Int} {lo hi : Int} {cap : Nat → Nat → Int} {pen : Nat → Int} {m : dM} (K : zK N S P pp le kn il io sx sy so co te lt go px py lo hi cap pen m) {a b c d : Int} (hr : (-2147483648 ≤ a ∧ a < 2147483648) ∧ (-2147483648 ≤ b ∧ b < 2147483648) ∧ (-2147483648 ≤ c ∧ c < 2147483648) ∧ -2147483648 ≤ d ∧ d < 2147483648) (q : ¬ (((1 ≤ c ∧ c ≤ 10) ∧ 1 ≤ d ∧ d ≤ 400) ∧ zAll (zKx a c d) (zKy b c d) N = true)) : ∃ m', fL_act m 0 5 (Int32.ofInt a) (Int32.ofInt b) (Int32.ofInt c) (Int32.ofInt d) = some (-72, m') ∧ zK N S P pp le kn il io sx sy so co te lt go px py lo hi cap pen m' := by
  have X := fX11_block_ok K.1 K.2.1 K.2.2.1 K.2.2.2.1 (a := a) (b := b) (c := c) (d := d) (by omega) (by omega) (by omega) (by omega) (by omega) (by omega) (by omega) (by omega)
  by_cases c0 : (1 ≤ c ∧ c ≤ 10) ∧ 1 ≤ d ∧ d ≤ 400
  · rw [if_pos c0, if_neg (fun w => q ⟨c0, w⟩)] at X
    exact ⟨_, by rw [act5, X, Option.bind_some, zCt1], K_draft K⟩
  · rw [if_neg c0] at X
    exact ⟨_, by rw [act5, X, Option.bind_some, zCt1], K⟩
theorem r6_q {N S P pp : Nat} {le kn : Nat → Int} {il io : Nat → Bool} {sx sy : Nat → Nat → Int} {so : Nat → Nat} {co te : Nat → Int} {lt : Nat → Bool} {go : Nat → Nat → Nat} {px py : Nat → Nat → Int} {lo hi : Int} {cap : Nat → Nat → Int} {pen : Nat → Int} {m : dM} (K : zK N S P pp le kn il io sx sy so co te lt go px py lo hi cap pen m) {a b c d : Int} (hr : (-2147483648 ≤ a ∧ a < 2147483648) ∧ (-2147483648 ≤ b ∧ b < 2147483648) ∧ (-2147483648 ≤ c ∧ c < 2147483648) ∧ -2147483648 ≤ d ∧ d < 2147483648) (q : ¬ ((1 ≤ c ∧ c ≤ 400) ∧ zAll (zVx a c) (zVy b c) N = true)) : ∃ m', fL_act m 0 6 (Int32.ofInt a) (Int32.ofInt b) (Int32.ofInt c) (Int32.ofInt d) = some (-72, m') ∧ zK N S P pp le kn il io sx sy so co te lt go px py lo hi cap pen m' := by
  have X := fX11_wedge_ok K.1 K.2.1 K.2.2.1 K.2.2.2.1 (a := a) (b := b) (c := c) (by omega) (by omega) (by omega) (by omega) (by omega) (by omega)
  by_cases c0 : 1 ≤ c ∧ c ≤ 400
  · rw [if_pos c0, if_neg (fun w => q ⟨c0, w⟩)] at X
    exact ⟨_, by rw [act6, X, Option.bind_some, zCt1], K_draft K⟩
  · rw [if_neg c0] at X
    exact ⟨_, by rw [act6, X, Option.bind_some, zCt1], K⟩
theorem r5_72 {N S P pp : Nat} {le kn : Nat → Int} {il io : Nat → Bool} {sx sy : Nat → Nat → Int} {so : Nat → Nat} {co te : Nat → Int} {lt : Nat → Bool} {go : Nat → Nat → Nat} {px py : Nat → Nat → Int} {lo hi : Int} {cap : Nat → Nat → Int} {pen : Nat → Int} {m : dM} (K : zK N S P pp le kn il io sx sy so co te lt go px py lo hi cap pen m) {a b c d : Int} (hr : (-2147483648 ≤ a ∧ a < 2147483648) ∧ (-2147483648 ≤ b ∧ b < 2147483648) ∧ (-2147483648 ≤ c ∧ c < 2147483648) ∧ -2147483648 ≤ d ∧ d < 2147483648) (h : ¬ ((1 ≤ c ∧ c ≤ 10) ∧ 1 ≤ d ∧ d ≤ 400) ∨ ¬ ((0 ≤ a ∧ a ≤ 1600) ∧ 0 ≤ b ∧ b ≤ 840)) : ∃ m', fL_act m 0 5 (Int32.ofInt a) (Int32.ofInt b) (Int32.ofInt c) (Int32.ofInt d) = some (-72, m') ∧ zK N S P pp le kn il io sx sy so co te lt go px py lo hi cap pen m' := by
  have hN := K.1.2.1
  have hN2 := K.1.1
  have hS := K.2.2.1.1
  have hP := K.2.2.2.2.1.1
  refine r5_q K hr (fun q => ?_)
  rcases h with h | h
  · exact h q.1
  · have q1 := zFd_in (zAll_all q.2 0 (by omega)); rw [zK0, zK0'] at q1; omega
theorem r6_72 {N S P pp : Nat} {le kn : Nat → Int} {il io : Nat → Bool} {sx sy : Nat → Nat → Int} {so : Nat → Nat} {co te : Nat → Int} {lt : Nat → Bool} {go : Nat → Nat → Nat} {px py : Nat → Nat → Int} {lo hi : Int} {cap : Nat → Nat → Int} {pen : Nat → Int} {m : dM} (K : zK N S P pp le kn il io sx sy so co te lt go px py lo hi cap pen m) {a b c d : Int} (hr : (-2147483648 ≤ a ∧ a < 2147483648) ∧ (-2147483648 ≤ b ∧ b < 2147483648) ∧ (-2147483648 ≤ c ∧ c < 2147483648) ∧ -2147483648 ≤ d ∧ d < 2147483648) (h : ¬ (1 ≤ c ∧ c ≤ 400) ∨ ¬ ((0 ≤ a ∧ a ≤ 1600) ∧ 0 ≤ b ∧ b ≤ 840) ∨ a < c) : ∃ m', fL_act m 0 6 (Int32.ofInt a) (Int32.ofInt b) (Int32.ofInt c) (Int32.ofInt d) = some (-72, m') ∧ zK N S P pp le kn il io sx sy so co te lt go px py lo hi cap pen m' := by
  have hN := K.1.2.1
  have hN2 := K.1.1
  have hS := K.2.2.1.1
  have hP := K.2.2.2.2.1.1
  refine r6_q K hr (fun q => ?_)
  rcases h with h | h | h
  · exact h q.1
  · have q1 := zFd_in (zAll_all q.2 0 (by omega)); rw [zV0, zV0'] at q1; omega
  · have q1 := zFd_in (zAll_all q.2 1 (by omega)); have e1 : zVx a c 1 = a + -c * 1 := rfl; rw [e1] at q1; omega
theorem r7_71 {N S P pp : Nat} {le kn : Nat → Int} {il io : Nat → Bool} {sx sy : Nat → Nat → Int} {so : Nat → Nat} {co te : Nat → Int} {lt : Nat → Bool} {go : Nat → Nat → Nat} {px py : Nat → Nat → Int} {lo hi : Int} {cap : Nat → Nat → Int} {pen : Nat → Int} {m : dM} (K : zK N S P pp le kn il io sx sy so co te lt go px py lo hi cap pen m) {a b c d : Int} (hr : (-2147483648 ≤ a ∧ a < 2147483648) ∧ (-2147483648 ≤ b ∧ b < 2147483648) ∧ (-2147483648 ≤ c ∧ c < 2147483648) ∧ -2147483648 ≤ d ∧ d < 2147483648) (h : ¬ (0 ≤ a ∧ a < S)) : ∃ m', fL_act m 0 7 (Int32.ofInt a) (Int32.ofInt b) (Int32.ofInt c) (Int32.ofInt d) = some (-71, m') ∧ zK N S P pp le kn il io sx sy so co te lt go px py lo hi cap pen m' := by
  have hN := K.1.2.1
  have hN2 := K.1.1
  have hS := K.2.2.1.1
  have hP := K.2.2.2.2.1.1
  exact ⟨m, by rw [act7, zBo_eq, fX11_part_ok K _ (by omega) (by omega) (by omega) (by omega) (by omega) (by omega), if_neg h, Option.bind_some, zCt3], K⟩
theorem r7_72 {N S P pp : Nat} {le kn : Nat → Int} {il io : Nat → Bool} {sx sy : Nat → Nat → Int} {so : Nat → Nat} {co te : Nat → Int} {lt : Nat → Bool} {go : Nat → Nat → Nat} {px py : Nat → Nat → Int} {lo hi : Int} {cap : Nat → Nat → Int} {pen : Nat → Int} {m : dM} (K : zK N S P pp le kn il io sx sy so co te lt go px py lo hi cap pen m) {a b c d : Int} (hr : (-2147483648 ≤ a ∧ a < 2147483648) ∧ (-2147483648 ≤ b ∧ b < 2147483648) ∧ (-2147483648 ≤ c ∧ c < 2147483648) ∧ -2147483648 ≤ d ∧ d < 2147483648) (h : (0 ≤ a ∧ a < S) ∧ (¬ (1 ≤ b ∧ b ≤ 64) ∨ ¬ (60 ≤ c ∧ c ≤ 240))) : ∃ m', fL_act m 0 7 (Int32.ofInt a) (Int32.ofInt b) (Int32.ofInt c) (Int32.ofInt d) = some (-72, m') ∧ zK N S P pp le kn il io sx sy so co te lt go px py lo hi cap pen m' := by
  have hN := K.1.2.1
  have hN2 := K.1.1
  have hS := K.2.2.1.1
  have hP := K.2.2.2.2.1.1
  refine ⟨m, ?_, K⟩
  rw [act7, zBo_eq, fX11_part_ok K _ (by omega) (by omega) (by omega) (by omega) (by omega) (by omega), if_pos h.1]
  by_cases q : 1 ≤ b ∧ b ≤ 64
  · rw [if_pos q, if_neg (by omega), Option.bind_some, zCt1]
  · rw [if_neg q, Option.bind_some, zCt1]
theorem r7_73 {N S P pp : Nat} {le kn : Nat → Int} {il io : Nat → Bool} {sx sy : Nat → Nat → Int} {so : Nat → Nat} {co te : Nat → Int} {lt : Nat → Bool} {go : Nat → Nat → Nat} {px py : Nat → Nat → Int} {lo hi : Int} {cap : Nat → Nat → Int} {pen : Nat → Int} {m : dM} (K : zK N S P pp le kn il io sx sy so co te lt go px py lo hi cap pen m) {a b c d : Int} (hr : (-2147483648 ≤ a ∧ a < 2147483648) ∧ (-2147483648 ≤ b ∧ b < 2147483648) ∧ (-2147483648 ≤ c ∧ c < 2147483648) ∧ -2147483648 ≤ d ∧ d < 2147483648) (h : (0 ≤ a ∧ a < S) ∧ (1 ≤ b ∧ b ≤ 64) ∧ (60 ≤ c ∧ c ≤ 240) ∧ P = 12) : ∃ m', fL_act m 0 7 (Int32.ofInt a) (Int32.ofInt b) (Int32.ofInt c) (Int32.ofInt d) = some (-73, m') ∧ zK N S P pp le kn il io sx sy so co te lt go px py lo hi cap pen m' := by
  have hN := K.1.2.1
  have hN2 := K.1.1
  have hS := K.2.2.1.1
  have hP := K.2.2.2.2.1.1
  exact ⟨m, by rw [act7, zBo_eq, fX11_part_ok K _ (by omega) (by omega) (by omega) (by omega) (by omega) (by omega), if_pos h.1, if_pos h.2.1, if_pos h.2.2.1, if_neg (by omega), Option.bind_some, zCt2], K⟩
theorem r8_71 {N S P pp : Nat} {le kn : Nat → Int} {il io : Nat → Bool} {sx sy : Nat → Nat → Int} {so : Nat → Nat} {co te : Nat → Int} {lt : Nat → Bool} {go : Nat → Nat → Nat} {px py : Nat → Nat → Int} {lo hi : Int} {cap : Nat → Nat → Int} {pen : Nat → Int} {m : dM} (K : zK N S P pp le kn il io sx sy so co te lt go px py lo hi cap pen m) {a b c d : Int} (hr : (-2147483648 ≤ a ∧ a < 2147483648) ∧ (-2147483648 ≤ b ∧ b < 2147483648) ∧ (-2147483648 ≤ c ∧ c < 2147483648) ∧ -2147483648 ≤ d ∧ d < 2147483648) (h : ¬ (0 ≤ a ∧ a < P) ∨ ¬ (0 ≤ b ∧ b < S)) : ∃ m', fL_act m 0 8 (Int32.ofInt a) (Int32.ofInt b) (Int32.ofInt c) (Int32.ofInt d) = some (-71, m') ∧ zK N S P pp le kn il io sx sy so co te lt go px py lo hi cap pen m' := by
  have hN := K.1.2.1
  have hN2 := K.1.1
  have hS := K.2.2.1.1
  have hP := K.2.2.2.2.1.1
  refine ⟨m, ?_, K⟩
  rw [act8, fL_change_eq, show fX11_change m 0 (Int32.ofInt a) (Int32.ofInt b) (Int32.ofInt c) (Int32.ofInt d) 1 = _ from fX11_change_ok K true (b := a) (a := b) (c := c) (t := d) (by omega) (by omega) (by omega) (by omega) (by omega) (by omega) (by omega) (by omega)]
  by_cases q : 0 ≤ a ∧ a < P
  · rw [if_pos q, if_neg (by omega), Option.bind_some, dS_l, Option.bind_some, zCt3]
  · rw [if_neg q, Option.bind_some, dS_l, Option.bind_some, zCt3]
theorem r8_72 {N S P pp : Nat} {le kn : Nat → Int} {il io : Nat → Bool} {sx sy : Nat → Nat → Int} {so : Nat → Nat} {co te : Nat → Int} {lt : Nat → Bool} {go : Nat → Nat → Nat} {px py : Nat → Nat → Int} {lo hi : Int} {cap : Nat → Nat → Int} {pen : Nat → Int} {m : dM} (K : zK N S P pp le kn il io sx sy so co te lt go px py lo hi cap pen m) {a b c d : Int} (hr : (-2147483648 ≤ a ∧ a < 2147483648) ∧ (-2147483648 ≤ b ∧ b < 2147483648) ∧ (-2147483648 ≤ c ∧ c < 2147483648) ∧ -2147483648 ≤ d ∧ d < 2147483648) (h : ((0 ≤ a ∧ a < P) ∧ 0 ≤ b ∧ b < S) ∧ (¬ (1 ≤ c ∧ c ≤ 64) ∨ ¬ (60 ≤ d ∧ d ≤ 240))) : ∃ m', fL_act m 0 8 (Int32.ofInt a) (Int32.ofInt b) (Int32.ofInt c) (Int32.ofInt d) = some (-72, m') ∧ zK N S P pp le kn il io sx sy so co te lt go px py lo hi cap pen m' := by
  have hN := K.1.2.1
  have hN2 := K.1.1
  have hS := K.2.2.1.1
  have hP := K.2.2.2.2.1.1
  refine ⟨m, ?_, K⟩
  rw [act8, fL_change_eq, show fX11_change m 0 (Int32.ofInt a) (Int32.ofInt b) (Int32.ofInt c) (Int32.ofInt d) 1 = _ from fX11_change_ok K true (b := a) (a := b) (c := c) (t := d) (by omega) (by omega) (by omega) (by omega) (by omega) (by omega) (by omega) (by omega), if_pos h.1.1, if_pos h.1.2]
  by_cases q : 1 ≤ c ∧ c ≤ 64
  · rw [if_pos q, if_neg (by omega), Option.bind_some, dS_l, Option.bind_some, zCt1]
  · rw [if_neg q, Option.bind_some, dS_l, Option.bind_some, zCt1]
theorem r9_73 {N S P pp : Nat} {le kn : Nat → Int} {il io : Nat → Bool} {sx sy : Nat → Nat → Int} {so : Nat → Nat} {co te : Nat → Int} {lt : Nat → Bool} {go : Nat → Nat → Nat} {px py : Nat → Nat → Int} {lo hi : Int} {cap : Nat → Nat → Int} {pen : Nat → Int} {m : dM} (K : zK N S P pp le kn il io sx sy so co te lt go px py lo hi cap pen m) {a b c d : Int} (hr : (-2147483648 ≤ a ∧ a < 2147483648) ∧ (-2147483648 ≤ b ∧ b < 2147483648) ∧ (-2147483648 ≤ c ∧ c < 2147483648) ∧ -2147483648 ≤ d ∧ d < 2147483648) (h : P = 0) : ∃ m', fL_act m 0 9 (Int32.ofInt a) (Int32.ofInt b) (Int32.ofInt c) (Int32.ofInt d) = some (-73, m') ∧ zK N S P pp le kn il io sx sy so co te lt go px py lo hi cap pen m' := by
  have hN := K.1.2.1
  have hN2 := K.1.1
  have hS := K.2.2.1.1
  have hP := K.2.2.2.2.1.1
  subst h
  exact ⟨m, by rw [act9, fX11_cut_no (S := S) K.2.2.2.2.2.1, Option.bind_some, zCt2], K⟩
theorem r10_71 {N S P pp : Nat} {le kn : Nat → Int} {il io : Nat → Bool} {sx sy : Nat → Nat → Int} {so : Nat → Nat} {co te : Nat → Int} {lt : Nat → Bool} {go : Nat → Nat → Nat} {px py : Nat → Nat → Int} {lo hi : Int} {cap : Nat → Nat → Int} {pen : Nat → Int} {m : dM} (K : zK N S P pp le kn il io sx sy so co te lt go px py lo hi cap pen m) {a b c d : Int} (hr : (-2147483648 ≤ a ∧ a < 2147483648) ∧ (-2147483648 ≤ b ∧ b < 2147483648) ∧ (-2147483648 ≤ c ∧ c < 2147483648) ∧ -2147483648 ≤ d ∧ d < 2147483648) (h : ¬ ((0 ≤ a ∧ a < P) ∧ 0 ≤ b ∧ b < N)) : ∃ m', fL_act m 0 10 (Int32.ofInt a) (Int32.ofInt b) (Int32.ofInt c) (Int32.ofInt d) = some (-71, m') ∧ zK N S P pp le kn il io sx sy so co te lt go px py lo hi cap pen m' := by
  have hN := K.1.2.1
  have hN2 := K.1.1
  have hS := K.2.2.1.1
  have hP := K.2.2.2.2.1.1
  exact ⟨m, by rw [act10, fX11_place_ok K.1 K.2.1 K.2.2.2.2.1 K.2.2.2.2.2.1 (by omega) (by omega) (by omega) (by omega), if_neg h, Option.bind_some, zCt3], K⟩
theorem r11_71 {N S P pp : Nat} {le kn : Nat → Int} {il io : Nat → Bool} {sx sy : Nat → Nat → Int} {so : Nat → Nat} {co te : Nat → Int} {lt : Nat → Bool} {go : Nat → Nat → Nat} {px py : Nat → Nat → Int} {lo hi : Int} {cap : Nat → Nat → Int} {pen : Nat → Int} {m : dM} (K : zK N S P pp le kn il io sx sy so co te lt go px py lo hi cap pen m) {a b c d : Int} (hr : (-2147483648 ≤ a ∧ a < 2147483648) ∧ (-2147483648 ≤ b ∧ b < 2147483648) ∧ (-2147483648 ≤ c ∧ c < 2147483648) ∧ -2147483648 ≤ d ∧ d < 2147483648) (h : ¬ (0 ≤ a ∧ a < P)) : ∃ m', fL_act m 0 11 (Int32.ofInt a) (Int32.ofInt b) (Int32.ofInt c) (Int32.ofInt d) = some (-71, m') ∧ zK N S P pp le kn il io sx sy so co te lt go px py lo hi cap pen m' := by
  have hN := K.1.2.1
  have hN2 := K.1.1
  have hS := K.2.2.1.1
  have hP := K.2.2.2.2.1.1
  exact ⟨m, by rw [act11, fX11_walking_ok K.1 K.2.1 K.2.2.1 K.2.2.2.2.1 K.2.2.2.2.2.1 (by omega) (by omega), if_neg h, Option.bind_some, zCt3], K⟩
theorem r12_71 {N S P pp : Nat} {le kn : Nat → Int} {il io : Nat → Bool} {sx sy : Nat → Nat → Int} {so : Nat → Nat} {co te : Nat → Int} {lt : Nat → Bool} {go : Nat → Nat → Nat} {px py : Nat → Nat → Int} {lo hi : Int} {cap : Nat → Nat → Int} {pen : Nat → Int} {m : dM} (K : zK N S P pp le kn il io sx sy so co te lt go px py lo hi cap pen m) {a b c d : Int} (hr : (-2147483648 ≤ a ∧ a < 2147483648) ∧ (-2147483648 ≤ b ∧ b < 2147483648) ∧ (-2147483648 ≤ c ∧ c < 2147483648) ∧ -2147483648 ≤ d ∧ d < 2147483648) (h : ¬ ((0 ≤ a ∧ a < P) ∧ 0 ≤ c ∧ c < N)) : ∃ m', fL_act m 0 12 (Int32.ofInt a) (Int32.ofInt b) (Int32.ofInt c) (Int32.ofInt d) = some (-71, m') ∧ zK N S P pp le kn il io sx sy so co te lt go px py lo hi cap pen m' := by
  have hN := K.1.2.1
  have hN2 := K.1.1
  have hS := K.2.2.1.1
  have hP := K.2.2.2.2.1.1
  exact ⟨m, by rw [act12, fX11_at_ok K.1 K.2.1 K.2.2.1 K.2.2.2.2.1 K.2.2.2.2.2.1 (a := a) (b := c) (c := b) (by omega) (by omega) (by omega) (by omega) (by omega) (by omega), if_neg h, Option.bind_some, zCt3], K⟩
theorem r12_72 {N S P pp : Nat} {le kn : Nat → Int} {il io : Nat → Bool} {sx sy : Nat → Nat → Int} {so : Nat → Nat} {co te : Nat → Int} {lt : Nat → Bool} {go : Nat → Nat → Nat} {px py : Nat → Nat → Int} {lo hi : Int} {cap : Nat → Nat → Int} {pen : Nat → Int} {m : dM} (K : zK N S P pp le kn il io sx sy so co te lt go px py lo hi cap pen m) {a b c d : Int} (hr : (-2147483648 ≤ a ∧ a < 2147483648) ∧ (-2147483648 ≤ b ∧ b < 2147483648) ∧ (-2147483648 ≤ c ∧ c < 2147483648) ∧ -2147483648 ≤ d ∧ d < 2147483648) (h : ((0 ≤ a ∧ a < P) ∧ 0 ≤ c ∧ c < N) ∧ ¬ (0 ≤ b ∧ b ≤ co a.toNat)) : ∃ m', fL_act m 0 12 (Int32.ofInt a) (Int32.ofInt b) (Int32.ofInt c) (Int32.ofInt d) = some (-72, m') ∧ zK N S P pp le kn il io sx sy so co te lt go px py lo hi cap pen m' := by
  have hN := K.1.2.1
  have hN2 := K.1.1
  have hS := K.2.2.1.1
  have hP := K.2.2.2.2.1.1
  exact ⟨m, by rw [act12, fX11_at_ok K.1 K.2.1 K.2.2.1 K.2.2.2.2.1 K.2.2.2.2.2.1 (a := a) (b := c) (c := b) (by omega) (by omega) (by omega) (by omega) (by omega) (by omega), if_pos h.1, if_neg h.2, Option.bind_some, zCt1], K⟩
theorem r13_71 {N S P pp : Nat} {le kn : Nat → Int} {il io : Nat → Bool} {sx sy : Nat → Nat → Int} {so : Nat → Nat} {co te : Nat → Int} {lt : Nat → Bool} {go : Nat → Nat → Nat} {px py : Nat → Nat → Int} {lo hi : Int} {cap : Nat → Nat → Int} {pen : Nat → Int} {m : dM} (K : zK N S P pp le kn il io sx sy so co te lt go px py lo hi cap pen m) {a b c d : Int} (hr : (-2147483648 ≤ a ∧ a < 2147483648) ∧ (-2147483648 ≤ b ∧ b < 2147483648) ∧ (-2147483648 ≤ c ∧ c < 2147483648) ∧ -2147483648 ≤ d ∧ d < 2147483648) (h : ¬ (0 ≤ a ∧ a < P)) : ∃ m', fL_act m 0 13 (Int32.ofInt a) (Int32.ofInt b) (Int32.ofInt c) (Int32.ofInt d) = some (-71, m') ∧ zK N S P pp le kn il io sx sy so co te lt go px py lo hi cap pen m' := by
  have hN := K.1.2.1
  have hN2 := K.1.1
  have hS := K.2.2.1.1
  have hP := K.2.2.2.2.1.1
  exact ⟨m, by rw [act13, (K_fault_no K (by omega) (by omega) (by omega) (by omega)).1 h, Option.bind_some, zCt3], K⟩
theorem r13_72 {N S P pp : Nat} {le kn : Nat → Int} {il io : Nat → Bool} {sx sy : Nat → Nat → Int} {so : Nat → Nat} {co te : Nat → Int} {lt : Nat → Bool} {go : Nat → Nat → Nat} {px py : Nat → Nat → Int} {lo hi : Int} {cap : Nat → Nat → Int} {pen : Nat → Int} {m : dM} (K : zK N S P pp le kn il io sx sy so co te lt go px py lo hi cap pen m) {a b c d : Int} (hr : (-2147483648 ≤ a ∧ a < 2147483648) ∧ (-2147483648 ≤ b ∧ b < 2147483648) ∧ (-2147483648 ≤ c ∧ c < 2147483648) ∧ -2147483648 ≤ d ∧ d < 2147483648) (h : (0 ≤ a ∧ a < P) ∧ ¬ (0 ≤ b ∧ b ≤ 3)) : ∃ m', fL_act m 0 13 (Int32.ofInt a) (Int32.ofInt b) (Int32.ofInt c) (Int32.ofInt d) = some (-72, m') ∧ zK N S P pp le kn il io sx sy so co te lt go px py lo hi cap pen m' := by
  have hN := K.1.2.1
  have hN2 := K.1.1
  have hS := K.2.2.1.1
  have hP := K.2.2.2.2.1.1
  exact ⟨m, by rw [act13, (K_fault_no K (by omega) (by omega) (by omega) (by omega)).2 h.1 h.2, Option.bind_some, zCt1], K⟩
theorem r14_71 {N S P pp : Nat} {le kn : Nat → Int} {il io : Nat → Bool} {sx sy : Nat → Nat → Int} {so : Nat → Nat} {co te : Nat → Int} {lt : Nat → Bool} {go : Nat → Nat → Nat} {px py : Nat → Nat → Int} {lo hi : Int} {cap : Nat → Nat → Int} {pen : Nat → Int} {m : dM} (K : zK N S P pp le kn il io sx sy so co te lt go px py lo hi cap pen m) {a b c d : Int} (hr : (-2147483648 ≤ a ∧ a < 2147483648) ∧ (-2147483648 ≤ b ∧ b < 2147483648) ∧ (-2147483648 ≤ c ∧ c < 2147483648) ∧ -2147483648 ≤ d ∧ d < 2147483648) (h : ¬ (0 ≤ a ∧ a < P)) : ∃ m', fL_act m 0 14 (Int32.ofInt a) (Int32.ofInt b) (Int32.ofInt c) (Int32.ofInt d) = some (-71, m') ∧ zK N S P pp le kn il io sx sy so co te lt go px py lo hi cap pen m' := by
  have hN := K.1.2.1
  have hN2 := K.1.1
  have hS := K.2.2.1.1
  have hP := K.2.2.2.2.1.1
  exact ⟨m, by rw [act14, fX11_phase_ok K.1 K.2.1 K.2.2.1 K.2.2.2.2.1 K.2.2.2.2.2.1 (by omega) (by omega) (by omega) (by omega) (by omega) (by omega) (by omega) (by omega), if_neg h, Option.bind_some, zCt3], K⟩
theorem r14_72 {N S P pp : Nat} {le kn : Nat → Int} {il io : Nat → Bool} {sx sy : Nat → Nat → Int} {so : Nat → Nat} {co te : Nat → Int} {lt : Nat → Bool} {go : Nat → Nat → Nat} {px py : Nat → Nat → Int} {lo hi : Int} {cap : Nat → Nat → Int} {pen : Nat → Int} {m : dM} (K : zK N S P pp le kn il io sx sy so co te lt go px py lo hi cap pen m) {a b c d : Int} (hr : (-2147483648 ≤ a ∧ a < 2147483648) ∧ (-2147483648 ≤ b ∧ b < 2147483648) ∧ (-2147483648 ≤ c ∧ c < 2147483648) ∧ -2147483648 ≤ d ∧ d < 2147483648) (h : (0 ≤ a ∧ a < P) ∧ ¬ ((0 ≤ b ∧ b ≤ co a.toNat) ∧ (0 ≤ c ∧ c ≤ 1600) ∧ -1000 ≤ d ∧ d ≤ -1)) : ∃ m', fL_act m 0 14 (Int32.ofInt a) (Int32.ofInt b) (Int32.ofInt c) (Int32.ofInt d) = some (-72, m') ∧ zK N S P pp le kn il io sx sy so co te lt go px py lo hi cap pen m' := by
  have hN := K.1.2.1
  have hN2 := K.1.1
  have hS := K.2.2.1.1
  have hP := K.2.2.2.2.1.1
  exact ⟨m, by rw [act14, fX11_phase_ok K.1 K.2.1 K.2.2.1 K.2.2.2.2.1 K.2.2.2.2.2.1 (by omega) (by omega) (by omega) (by omega) (by omega) (by omega) (by omega) (by omega), if_pos h.1, if_neg h.2, Option.bind_some, zCt1], K⟩
theorem r15_71 {N S P pp : Nat} {le kn : Nat → Int} {il io : Nat → Bool} {sx sy : Nat → Nat → Int} {so : Nat → Nat} {co te : Nat → Int} {lt : Nat → Bool} {go : Nat → Nat → Nat} {px py : Nat → Nat → Int} {lo hi : Int} {cap : Nat → Nat → Int} {pen : Nat → Int} {m : dM} (K : zK N S P pp le kn il io sx sy so co te lt go px py lo hi cap pen m) {a b c d : Int} (hr : (-2147483648 ≤ a ∧ a < 2147483648) ∧ (-2147483648 ≤ b ∧ b < 2147483648) ∧ (-2147483648 ≤ c ∧ c < 2147483648) ∧ -2147483648 ≤ d ∧ d < 2147483648) (h : ¬ ((0 ≤ a ∧ a < P) ∧ 0 ≤ b ∧ b < N)) : ∃ m', fL_act m 0 15 (Int32.ofInt a) (Int32.ofInt b) (Int32.ofInt c) (Int32.ofInt d) = some (-71, m') ∧ zK N S P pp le kn il io sx sy so co te lt go px py lo hi cap pen m' := by
  have hN := K.1.2.1
  have hN2 := K.1.1
  have hS := K.2.2.1.1
  have hP := K.2.2.2.2.1.1
  exact ⟨m, by rw [act15, fX11_page_ok K.1 K.2.1 K.2.2.1 K.2.2.2.2.1 K.2.2.2.2.2.1 (by omega) (by omega) (by omega) (by omega) (by omega) (by omega), if_neg h, Option.bind_some, zCt3], K⟩
theorem r15_72 {N S P pp : Nat} {le kn : Nat → Int} {il io : Nat → Bool} {sx sy : Nat → Nat → Int} {so : Nat → Nat} {co te : Nat → Int} {lt : Nat → Bool} {go : Nat → Nat → Nat} {px py : Nat → Nat → Int} {lo hi : Int} {cap : Nat → Nat → Int} {pen : Nat → Int} {m : dM} (K : zK N S P pp le kn il io sx sy so co te lt go px py lo hi cap pen m) {a b c d : Int} (hr : (-2147483648 ≤ a ∧ a < 2147483648) ∧ (-2147483648 ≤ b ∧ b < 2147483648) ∧ (-2147483648 ≤ c ∧ c < 2147483648) ∧ -2147483648 ≤ d ∧ d < 2147483648) (h : ((0 ≤ a ∧ a < P) ∧ 0 ≤ b ∧ b < N) ∧ ¬ (0 ≤ c ∧ c ≤ 3)) : ∃ m', fL_act m 0 15 (Int32.ofInt a) (Int32.ofInt b) (Int32.ofInt c) (Int32.ofInt d) = some (-72, m') ∧ zK N S P pp le kn il io sx sy so co te lt go px py lo hi cap pen m' := by
  have hN := K.1.2.1
  have hN2 := K.1.1
  have hS := K.2.2.1.1
  have hP := K.2.2.2.2.1.1
  exact ⟨m, by rw [act15, fX11_page_ok K.1 K.2.1 K.2.2.1 K.2.2.2.2.1 K.2.2.2.2.2.1 (by omega) (by omega) (by omega) (by omega) (by omega) (by omega), if_pos h.1, if_neg h.2, Option.bind_some, zCt1], K⟩
theorem r16_72 {N S P pp : Nat} {le kn : Nat → Int} {il io : Nat → Bool} {sx sy : Nat → Nat → Int} {so : Nat → Nat} {co te : Nat → Int} {lt : Nat → Bool} {go : Nat → Nat → Nat} {px py : Nat → Nat → Int} {lo hi : Int} {cap : Nat → Nat → Int} {pen : Nat → Int} {m : dM} (K : zK N S P pp le kn il io sx sy so co te lt go px py lo hi cap pen m) {a b c d : Int} (hr : (-2147483648 ≤ a ∧ a < 2147483648) ∧ (-2147483648 ≤ b ∧ b < 2147483648) ∧ (-2147483648 ≤ c ∧ c < 2147483648) ∧ -2147483648 ≤ d ∧ d < 2147483648) (h : ¬ (0 ≤ a ∧ a ≤ b ∧ b ≤ 9999)) : ∃ m', fL_act m 0 16 (Int32.ofInt a) (Int32.ofInt b) (Int32.ofInt c) (Int32.ofInt d) = some (-72, m') ∧ zK N S P pp le kn il io sx sy so co te lt go px py lo hi cap pen m' := by
  have hN := K.1.2.1
  have hN2 := K.1.1
  have hS := K.2.2.1.1
  have hP := K.2.2.2.2.1.1
  exact ⟨m, by rw [act16, fL_clock_eq, fX11_clock_ok m (by omega) (by omega) (by omega) (by omega), if_neg h, Option.bind_some, dS_l, Option.bind_some, zCt1], K⟩
theorem r17_71 {N S P pp : Nat} {le kn : Nat → Int} {il io : Nat → Bool} {sx sy : Nat → Nat → Int} {so : Nat → Nat} {co te : Nat → Int} {lt : Nat → Bool} {go : Nat → Nat → Nat} {px py : Nat → Nat → Int} {lo hi : Int} {cap : Nat → Nat → Int} {pen : Nat → Int} {m : dM} (K : zK N S P pp le kn il io sx sy so co te lt go px py lo hi cap pen m) {a b c d : Int} (hr : (-2147483648 ≤ a ∧ a < 2147483648) ∧ (-2147483648 ≤ b ∧ b < 2147483648) ∧ (-2147483648 ≤ c ∧ c < 2147483648) ∧ -2147483648 ≤ d ∧ d < 2147483648) (h : ¬ ((0 ≤ a ∧ a < 6) ∧ 0 ≤ b ∧ b < 4)) : ∃ m', fL_act m 0 17 (Int32.ofInt a) (Int32.ofInt b) (Int32.ofInt c) (Int32.ofInt d) = some (-71, m') ∧ zK N S P pp le kn il io sx sy so co te lt go px py lo hi cap pen m' := by
  have hN := K.1.2.1
  have hN2 := K.1.1
  have hS := K.2.2.1.1
  have hP := K.2.2.2.2.1.1
  exact ⟨m, by rw [act17, fX11_judge_ok K.2.2.2.2.1 K.2.2.2.2.2.1 K.2.2.2.2.2.2.2.2.1 K.2.2.2.2.2.2.2.2.2 (by omega) (by omega) (by omega) (by omega) (by omega) (by omega), if_neg h, Option.bind_some, zCt3], K⟩
theorem r17_72 {N S P pp : Nat} {le kn : Nat → Int} {il io : Nat → Bool} {sx sy : Nat → Nat → Int} {so : Nat → Nat} {co te : Nat → Int} {lt : Nat → Bool} {go : Nat → Nat → Nat} {px py : Nat → Nat → Int} {lo hi : Int} {cap : Nat → Nat → Int} {pen : Nat → Int} {m : dM} (K : zK N S P pp le kn il io sx sy so co te lt go px py lo hi cap pen m) {a b c d : Int} (hr : (-2147483648 ≤ a ∧ a < 2147483648) ∧ (-2147483648 ≤ b ∧ b < 2147483648) ∧ (-2147483648 ≤ c ∧ c < 2147483648) ∧ -2147483648 ≤ d ∧ d < 2147483648) (h : ((0 ≤ a ∧ a < 6) ∧ 0 ≤ b ∧ b < 4) ∧ ¬ (0 ≤ c ∧ c ≤ 1000)) : ∃ m', fL_act m 0 17 (Int32.ofInt a) (Int32.ofInt b) (Int32.ofInt c) (Int32.ofInt d) = some (-72, m') ∧ zK N S P pp le kn il io sx sy so co te lt go px py lo hi cap pen m' := by
  have hN := K.1.2.1
  have hN2 := K.1.1
  have hS := K.2.2.1.1
  have hP := K.2.2.2.2.1.1
  exact ⟨m, by rw [act17, fX11_judge_ok K.2.2.2.2.1 K.2.2.2.2.2.1 K.2.2.2.2.2.2.2.2.1 K.2.2.2.2.2.2.2.2.2 (by omega) (by omega) (by omega) (by omega) (by omega) (by omega), if_pos h.1, if_neg h.2, Option.bind_some, zCt1], K⟩
theorem r18_71 {N S P pp : Nat} {le kn : Nat → Int} {il io : Nat → Bool} {sx sy : Nat → Nat → Int} {so : Nat → Nat} {co te : Nat → Int} {lt : Nat → Bool} {go : Nat → Nat → Nat} {px py : Nat → Nat → Int} {lo hi : Int} {cap : Nat → Nat → Int} {pen : Nat → Int} {m : dM} (K : zK N S P pp le kn il io sx sy so co te lt go px py lo hi cap pen m) {a b c d : Int} (hr : (-2147483648 ≤ a ∧ a < 2147483648) ∧ (-2147483648 ≤ b ∧ b < 2147483648) ∧ (-2147483648 ≤ c ∧ c < 2147483648) ∧ -2147483648 ≤ d ∧ d < 2147483648) (h : ¬ (0 ≤ a ∧ a < 6)) : ∃ m', fL_act m 0 18 (Int32.ofInt a) (Int32.ofInt b) (Int32.ofInt c) (Int32.ofInt d) = some (-71, m') ∧ zK N S P pp le kn il io sx sy so co te lt go px py lo hi cap pen m' := by
  have hN := K.1.2.1
  have hN2 := K.1.1
  have hS := K.2.2.1.1
  have hP := K.2.2.2.2.1.1
  exact ⟨m, by rw [act18, fX11_penalty_ok K.2.2.2.2.1 K.2.2.2.2.2.1 K.2.2.2.2.2.2.2.2.1 K.2.2.2.2.2.2.2.2.2 (by omega) (by omega) (by omega) (by omega), if_neg h, Option.bind_some, zCt3], K⟩
theorem r18_72 {N S P pp : Nat} {le kn : Nat → Int} {il io : Nat → Bool} {sx sy : Nat → Nat → Int} {so : Nat → Nat} {co te : Nat → Int} {lt : Nat → Bool} {go : Nat → Nat → Nat} {px py : Nat → Nat → Int} {lo hi : Int} {cap : Nat → Nat → Int} {pen : Nat → Int} {m : dM} (K : zK N S P pp le kn il io sx sy so co te lt go px py lo hi cap pen m) {a b c d : Int} (hr : (-2147483648 ≤ a ∧ a < 2147483648) ∧ (-2147483648 ≤ b ∧ b < 2147483648) ∧ (-2147483648 ≤ c ∧ c < 2147483648) ∧ -2147483648 ≤ d ∧ d < 2147483648) (h : (0 ≤ a ∧ a < 6) ∧ ¬ (0 ≤ b ∧ b ≤ 1000)) : ∃ m', fL_act m 0 18 (Int32.ofInt a) (Int32.ofInt b) (Int32.ofInt c) (Int32.ofInt d) = some (-72, m') ∧ zK N S P pp le kn il io sx sy so co te lt go px py lo hi cap pen m' := by
  have hN := K.1.2.1
  have hN2 := K.1.1
  have hS := K.2.2.1.1
  have hP := K.2.2.2.2.1.1
  exact ⟨m, by rw [act18, fX11_penalty_ok K.2.2.2.2.1 K.2.2.2.2.2.1 K.2.2.2.2.2.2.2.2.1 K.2.2.2.2.2.2.2.2.2 (by omega) (by omega) (by omega) (by omega), if_pos h.1, if_neg h.2, Option.bind_some, zCt1], K⟩
theorem r19_72 {N S P pp : Nat} {le kn : Nat → Int} {il io : Nat → Bool} {sx sy : Nat → Nat → Int} {so : Nat → Nat} {co te : Nat → Int} {lt : Nat → Bool} {go : Nat → Nat → Nat} {px py : Nat → Nat → Int} {lo hi : Int} {cap : Nat → Nat → Int} {pen : Nat → Int} {m : dM} (K : zK N S P pp le kn il io sx sy so co te lt go px py lo hi cap pen m) {a b c d : Int} (hr : (-2147483648 ≤ a ∧ a < 2147483648) ∧ (-2147483648 ≤ b ∧ b < 2147483648) ∧ (-2147483648 ≤ c ∧ c < 2147483648) ∧ -2147483648 ≤ d ∧ d < 2147483648) (h : ¬ (0 ≤ a ∧ a < 6)) : ∃ m', fL_act m 0 19 (Int32.ofInt a) (Int32.ofInt b) (Int32.ofInt c) (Int32.ofInt d) = some (-72, m') ∧ zK N S P pp le kn il io sx sy so co te lt go px py lo hi cap pen m' := by
  have hN := K.1.2.1
  have hN2 := K.1.1
  have hS := K.2.2.1.1
  have hP := K.2.2.2.2.1.1
  exact ⟨m, by rw [act19, K_ranked_no K (by omega) (by omega) h, Option.bind_some, zCt1], K⟩
theorem r20_72 {N S P pp : Nat} {le kn : Nat → Int} {il io : Nat → Bool} {sx sy : Nat → Nat → Int} {so : Nat → Nat} {co te : Nat → Int} {lt : Nat → Bool} {go : Nat → Nat → Nat} {px py : Nat → Nat → Int} {lo hi : Int} {cap : Nat → Nat → Int} {pen : Nat → Int} {m : dM} (K : zK N S P pp le kn il io sx sy so co te lt go px py lo hi cap pen m) {a b c d : Int} (hr : (-2147483648 ≤ a ∧ a < 2147483648) ∧ (-2147483648 ≤ b ∧ b < 2147483648) ∧ (-2147483648 ≤ c ∧ c < 2147483648) ∧ -2147483648 ≤ d ∧ d < 2147483648) (h : ¬ ((1 ≤ a ∧ a ≤ 9999) ∧ 0 ≤ b ∧ b ≤ 60)) : ∃ m', fL_act m 0 20 (Int32.ofInt a) (Int32.ofInt b) (Int32.ofInt c) (Int32.ofInt d) = some (-72, m') ∧ zK N S P pp le kn il io sx sy so co te lt go px py lo hi cap pen m' := by
  have hN := K.1.2.1
  have hN2 := K.1.1
  have hS := K.2.2.1.1
  have hP := K.2.2.2.2.1.1
  exact ⟨m, by rw [act20, fX11_rehearse_ok m (by omega) (by omega) (by omega) (by omega), if_neg h, Option.bind_some, zCt1], K⟩
theorem toss_eq {m : dM} {a b c d e : Int32} : fL_toss m 0 a b c d e = (fX11_caught m 0 a b c d e).bind (fun q => dS q (fun x => dP2 x (fun kx mx => if kx = 3 then some ((-71), mx) else if kx = 1 then some ((-72), mx) else if kx = 2 then some ((-73), mx) else none)) (fun q => dP2 q (fun v4 m2 => if v4 = 0 then some (0, m2) else some (1, m2)))) := by unfold fL_toss; rw [dg_ok kF]
theorem rt_71 {N S P pp : Nat} {le kn : Nat → Int} {il io : Nat → Bool} {sx sy : Nat → Nat → Int} {so : Nat → Nat} {co te : Nat → Int} {lt : Nat → Bool} {go : Nat → Nat → Nat} {px py : Nat → Nat → Int} {lo hi : Int} {cap : Nat → Nat → Int} {pen : Nat → Int} {m : dM} (K : zK N S P pp le kn il io sx sy so co te lt go px py lo hi cap pen m) {a b c d e : Int} (hr : (-2147483648 ≤ a ∧ a < 2147483648) ∧ (-2147483648 ≤ b ∧ b < 2147483648) ∧ (-2147483648 ≤ c ∧ c < 2147483648) ∧ (-2147483648 ≤ d ∧ d < 2147483648) ∧ -2147483648 ≤ e ∧ e < 2147483648) (h : ¬ ((0 ≤ a ∧ a < P) ∧ 0 ≤ c ∧ c < N)) : ∃ m', fL_toss m 0 (Int32.ofInt a) (Int32.ofInt b) (Int32.ofInt c) (Int32.ofInt d) (Int32.ofInt e) = some (-71, m') ∧ zK N S P pp le kn il io sx sy so co te lt go px py lo hi cap pen m' := by
  refine ⟨m, ?_, K⟩
  rw [toss_eq, fX11_caught_ok K.1 K.2.1 K.2.2.1 K.2.2.2.2.1 K.2.2.2.2.2.1 (a := a) (b := c) (c := b) (t := d) (w := e) (by omega) (by omega) (by omega) (by omega) (by omega) (by omega) (by omega) (by omega) (by omega) (by omega), if_neg h, Option.bind_some, dS_l, dP2_v]
  rfl
theorem rt_72 {N S P pp : Nat} {le kn : Nat → Int} {il io : Nat → Bool} {sx sy : Nat → Nat → Int} {so : Nat → Nat} {co te : Nat → Int} {lt : Nat → Bool} {go : Nat → Nat → Nat} {px py : Nat → Nat → Int} {lo hi : Int} {cap : Nat → Nat → Int} {pen : Nat → Int} {m : dM} (K : zK N S P pp le kn il io sx sy so co te lt go px py lo hi cap pen m) {a b c d e : Int} (hr : (-2147483648 ≤ a ∧ a < 2147483648) ∧ (-2147483648 ≤ b ∧ b < 2147483648) ∧ (-2147483648 ≤ c ∧ c < 2147483648) ∧ (-2147483648 ≤ d ∧ d < 2147483648) ∧ -2147483648 ≤ e ∧ e < 2147483648) (h : ((0 ≤ a ∧ a < P) ∧ 0 ≤ c ∧ c < N) ∧ ¬ ((0 ≤ b ∧ b ≤ co a.toNat) ∧ (1 ≤ d ∧ d ≤ 9) ∧ -20 ≤ e ∧ e ≤ 20)) : ∃ m', fL_toss m 0 (Int32.ofInt a) (Int32.ofInt b) (Int32.ofInt c) (Int32.ofInt d) (Int32.ofInt e) = some (-72, m') ∧ zK N S P pp le kn il io sx sy so co te lt go px py lo hi cap pen m' := by
  refine ⟨m, ?_, K⟩
  rw [toss_eq, fX11_caught_ok K.1 K.2.1 K.2.2.1 K.2.2.2.2.1 K.2.2.2.2.2.1 (a := a) (b := c) (c := b) (t := d) (w := e) (by omega) (by omega) (by omega) (by omega) (by omega) (by omega) (by omega) (by omega) (by omega) (by omega), if_pos h.1, if_neg h.2, Option.bind_some, dS_l, dP2_v]
  rfl
theorem rt_73 {N S P pp : Nat} {le kn : Nat → Int} {il io : Nat → Bool} {sx sy : Nat → Nat → Int} {so : Nat → Nat} {co te : Nat → Int} {lt : Nat → Bool} {go : Nat → Nat → Nat} {px py : Nat → Nat → Int} {lo hi : Int} {cap : Nat → Nat → Int} {pen : Nat → Int} {m : dM} (K : zK N S P pp le kn il io sx sy so co te lt go px py lo hi cap pen m) {a b c d e : Int} (hr : (-2147483648 ≤ a ∧ a < 2147483648) ∧ (-2147483648 ≤ b ∧ b < 2147483648) ∧ (-2147483648 ≤ c ∧ c < 2147483648) ∧ (-2147483648 ≤ d ∧ d < 2147483648) ∧ -2147483648 ≤ e ∧ e < 2147483648) (h : ((0 ≤ a ∧ a < P) ∧ 0 ≤ c ∧ c < N) ∧ ((0 ≤ b ∧ b ≤ co a.toNat) ∧ (1 ≤ d ∧ d ≤ 9) ∧ -20 ≤ e ∧ e ≤ 20) ∧ zMar kn il io c.toNat = false) : ∃ m', fL_toss m 0 (Int32.ofInt a) (Int32.ofInt b) (Int32.ofInt c) (Int32.ofInt d) (Int32.ofInt e) = some (-73, m') ∧ zK N S P pp le kn il io sx sy so co te lt go px py lo hi cap pen m' := by
  refine ⟨m, ?_, K⟩
  rw [toss_eq, fX11_caught_ok K.1 K.2.1 K.2.2.1 K.2.2.2.2.1 K.2.2.2.2.2.1 (a := a) (b := c) (c := b) (t := d) (w := e) (by omega) (by omega) (by omega) (by omega) (by omega) (by omega) (by omega) (by omega) (by omega) (by omega), if_pos h.1, if_pos h.2.1, if_neg (by rw [h.2.2]; decide), Option.bind_some, dS_l, dP2_v]
  rfl
theorem gt {N S P pp : Nat} {le kn : Nat → Int} {il io : Nat → Bool} {sx sy : Nat → Nat → Int} {so : Nat → Nat} {co te : Nat → Int} {lt : Nat → Bool} {go : Nat → Nat → Nat} {px py : Nat → Nat → Int} {lo hi : Int} {cap : Nat → Nat → Int} {pen : Nat → Int} {m : dM} (K : zK N S P pp le kn il io sx sy so co te lt go px py lo hi cap pen m) {a b c d e : Int} (hr : (-2147483648 ≤ a ∧ a < 2147483648) ∧ (-2147483648 ≤ b ∧ b < 2147483648) ∧ (-2147483648 ≤ c ∧ c < 2147483648) ∧ (-2147483648 ≤ d ∧ d < 2147483648) ∧ -2147483648 ≤ e ∧ e < 2147483648) (h : ((0 ≤ a ∧ a < P) ∧ 0 ≤ c ∧ c < N) ∧ ((0 ≤ b ∧ b ≤ co a.toNat) ∧ (1 ≤ d ∧ d ≤ 9) ∧ -20 ≤ e ∧ e ≤ 20) ∧ zMar kn il io c.toNat = true) : ∃ m', fL_toss m 0 (Int32.ofInt a) (Int32.ofInt b) (Int32.ofInt c) (Int32.ofInt d) (Int32.ofInt e) = some (zB (zCa sx sy so co go a.toNat c.toNat b d e), m') ∧ zK N S P pp le kn il io sx sy so co te lt go px py lo hi cap pen m' := by
  refine ⟨m, ?_, K⟩
  rw [toss_eq, fX11_caught_ok K.1 K.2.1 K.2.2.1 K.2.2.2.2.1 K.2.2.2.2.2.1 (a := a) (b := c) (c := b) (t := d) (w := e) (by omega) (by omega) (by omega) (by omega) (by omega) (by omega) (by omega) (by omega) (by omega) (by omega), if_pos h.1, if_pos h.2.1, if_pos h.2.2, Option.bind_some, dS_r, dP2_v, zB_ite]
  cases zCa sx sy so co go a.toNat c.toNat b d e <;> rfl
theorem g0 {N S P pp : Nat} {le kn : Nat → Int} {il io : Nat → Bool} {sx sy : Nat → Nat → Int} {so : Nat → Nat} {co te : Nat → Int} {lt : Nat → Bool} {go : Nat → Nat → Nat} {px py : Nat → Nat → Int} {lo hi : Int} {cap : Nat → Nat → Int} {pen : Nat → Int} {m : dM} (K : zK N S P pp le kn il io sx sy so co te lt go px py lo hi cap pen m) (hS : S = 0) {a : Int} {b c d : Int32} (a1 : 2 ≤ a) (a2 : a ≤ 10) : ∃ m', fL_act m 0 0 (Int32.ofInt a) b c d = some (1, m') ∧ zK a.toNat 0 0 0 (fun _ => 14) (fun _ => -1) (fun _ => false) (fun _ => false) sx sy so co te lt go px py lo hi cap pen m' := by
  obtain ⟨m', e, K'⟩ := K_band K hS a1 a2
  exact ⟨m', by rw [act0, fL_band_eq, e, Option.bind_some, dS_r, Option.bind_some, zCtr]; rfl, K'⟩
theorem g1 {N S P pp : Nat} {le kn : Nat → Int} {il io : Nat → Bool} {sx sy : Nat → Nat → Int} {so : Nat → Nat} {co te : Nat → Int} {lt : Nat → Bool} {go : Nat → Nat → Nat} {px py : Nat → Nat → Int} {lo hi : Int} {cap : Nat → Nat → Int} {pen : Nat → Int} {m : dM} (K : zK N S P pp le kn il io sx sy so co te lt go px py lo hi cap pen m) {a b : Int} {c d : Int32} (ha : 0 ≤ a ∧ a < N) (hb : 5 ≤ b ∧ b ≤ 40) : ∃ m', fL_act m 0 1 (Int32.ofInt a) (Int32.ofInt b) c d = some (Int64.ofInt (le a.toNat), m') ∧ zK N S P pp (zUp le a.toNat b) kn il io sx sy so co te lt go px py lo hi cap pen m' := by
  obtain ⟨m', e, K'⟩ := K_legs K ha hb
  have hN := K.1.2.1
  have q := K.1.2.2.1 a.toNat (by omega)
  exact ⟨m', by rw [act1, e, Option.bind_some, zCtr, zi_j (by omega) (by omega)], K'⟩
theorem g2 {N S P pp : Nat} {le kn : Nat → Int} {il io : Nat → Bool} {sx sy : Nat → Nat → Int} {so : Nat → Nat} {co te : Nat → Int} {lt : Nat → Bool} {go : Nat → Nat → Nat} {px py : Nat → Nat → Int} {lo hi : Int} {cap : Nat → Nat → Int} {pen : Nat → Int} {m : dM} (K : zK N S P pp le kn il io sx sy so co te lt go px py lo hi cap pen m) (bb : Bool) {a : Int} {b c d : Int32} (hb : zBo b = bb) (ha : 0 ≤ a ∧ a < N) : ∃ m', fL_act m 0 2 (Int32.ofInt a) b c d = some ((if zMar kn (zUp il a.toNat bb) io a.toNat = true then 1 else 0), m') ∧ zK N S P pp le kn (zUp il a.toNat bb) io sx sy so co te lt go px py lo hi cap pen m' := by
  obtain ⟨m', e, K'⟩ := K_ill K bb ha
  refine ⟨m', ?_, K'⟩
  rw [act2, zBo_eq, hb, e, Option.bind_some, zCtr]
  cases zMar kn (zUp il a.toNat bb) io a.toNat <;> rfl
theorem g3 {N S P pp : Nat} {le kn : Nat → Int} {il io : Nat → Bool} {sx sy : Nat → Nat → Int} {so : Nat → Nat} {co te : Nat → Int} {lt : Nat → Bool} {go : Nat → Nat → Nat} {px py : Nat → Nat → Int} {lo hi : Int} {cap : Nat → Nat → Int} {pen : Nat → Int} {m : dM} (K : zK N S P pp le kn il io sx sy so co te lt go px py lo hi cap pen m) (bb : Bool) {a b : Int} {c d : Int32} (hc : zBo c = bb) (ha : 0 ≤ a ∧ a < 3) (hb : -1 ≤ b ∧ b < N) : ∃ m', fL_act m 0 3 (Int32.ofInt a) (Int32.ofInt b) c d = some (1, m') ∧ zK N S P pp le (zUp kn a.toNat b) il (zUp io a.toNat bb) sx sy so co te lt go px py lo hi cap pen m' := by
  obtain ⟨m', e, K'⟩ := K_alternate K bb ha hb
  exact ⟨m', by rw [act3, zBo_eq, hc, fL_alternate_eq, e, Option.bind_some, dS_r, Option.bind_some, zCtr]; rfl, K'⟩
theorem g4 {N S P pp : Nat} {le kn : Nat → Int} {il io : Nat → Bool} {sx sy : Nat → Nat → Int} {so : Nat → Nat} {co te : Nat → Int} {lt : Nat → Bool} {go : Nat → Nat → Nat} {px py : Nat → Nat → Int} {lo hi : Int} {cap : Nat → Nat → Int} {pen : Nat → Int} {m : dM} (K : zK N S P pp le kn il io sx sy so co te lt go px py lo hi cap pen m) {a b c d : Int} (hr : (-2147483648 ≤ a ∧ a < 2147483648) ∧ (-2147483648 ≤ b ∧ b < 2147483648) ∧ (-2147483648 ≤ c ∧ c < 2147483648) ∧ -2147483648 ≤ d ∧ d < 2147483648) (h0 : zFd a b = true ∧ zFd c d = true) (hf : zAll (zLn a c N) (zLn b d N) N = true) (hS : S < 12) : ∃ m', fL_act m 0 4 (Int32.ofInt a) (Int32.ofInt b) (Int32.ofInt c) (Int32.ofInt d) = some (Int64.ofInt S, m') ∧ zK N (S + 1) P pp le kn il io (zAdd S (zLn a c N) sx) (zAdd S (zLn b d N) sy) so co te lt go px py lo hi cap pen m' := by
  obtain ⟨m', e, K'⟩ := K_line K hr h0 hf hS
  exact ⟨m', by rw [act4, e, Option.bind_some, zCtr, zi_j (by omega) (by omega)], K'⟩
theorem r4_73 {N S P pp : Nat} {le kn : Nat → Int} {il io : Nat → Bool} {sx sy : Nat → Nat → Int} {so : Nat → Nat} {co te : Nat → Int} {lt : Nat → Bool} {go : Nat → Nat → Nat} {px py : Nat → Nat → Int} {lo hi : Int} {cap : Nat → Nat → Int} {pen : Nat → Int} {m : dM} (K : zK N S P pp le kn il io sx sy so co te lt go px py lo hi cap pen m) {a b c d : Int} (hr : (-2147483648 ≤ a ∧ a < 2147483648) ∧ (-2147483648 ≤ b ∧ b < 2147483648) ∧ (-2147483648 ≤ c ∧ c < 2147483648) ∧ -2147483648 ≤ d ∧ d < 2147483648) (h0 : zFd a b = true ∧ zFd c d = true) (hf : zAll (zLn a c N) (zLn b d N) N = true) (hS : ¬ S < 12) : ∃ m', fL_act m 0 4 (Int32.ofInt a) (Int32.ofInt b) (Int32.ofInt c) (Int32.ofInt d) = some (-73, m') ∧ zK N S P pp le kn il io sx sy so co te lt go px py lo hi cap pen m' :=
  ⟨_, by rw [act4, fX11_line_ok K.1 K.2.1 K.2.2.1 K.2.2.2.1 (by omega) (by omega) (by omega) (by omega) (by omega) (by omega) (by omega) (by omega), if_pos h0, if_pos hf, if_neg hS, Option.bind_some, zCt2], K_draft K⟩
theorem gs4 {N S P pp : Nat} {le kn : Nat → Int} {il io : Nat → Bool} {sx sy : Nat → Nat → Int} {so : Nat → Nat} {co te : Nat → Int} {lt : Nat → Bool} {go : Nat → Nat → Nat} {px py : Nat → Nat → Int} {lo hi : Int} {cap : Nat → Nat → Int} {pen : Nat → Int} {m : dM} (K : zK N S P pp le kn il io sx sy so co te lt go px py lo hi cap pen m) {a b c d : Int} (hr : (-2147483648 ≤ a ∧ a < 2147483648) ∧ (-2147483648 ≤ b ∧ b < 2147483648) ∧ (-2147483648 ≤ c ∧ c < 2147483648) ∧ -2147483648 ≤ d ∧ d < 2147483648) : ∃ (v : Int64) (m' : dM), fL_act m 0 4 (Int32.ofInt a) (Int32.ofInt b) (Int32.ofInt c) (Int32.ofInt d) = some (v, m') ∧ (((v = -72 ∨ v = -73) ∧ zK N S P pp le kn il io sx sy so co te lt go px py lo hi cap pen m') ∨ (v = Int64.ofInt S ∧ S < 12 ∧ ∃ sx' sy', zK N (S + 1) P pp le kn il io sx' sy' so co te lt go px py lo hi cap pen m')) := by
  rcases K_lineX K hr with ⟨m', e, -, K'⟩ | ⟨hS12, m', e, K'⟩ | ⟨m', f, g, e, hS12, K'⟩
  · exact ⟨_, m', by rw [act4, e, Option.bind_some, zCt1], Or.inl ⟨Or.inl rfl, K'⟩⟩
  · exact ⟨_, m', by rw [act4, e, Option.bind_some, zCt2], Or.inl ⟨Or.inr rfl, K'⟩⟩
  · exact ⟨_, m', by rw [act4, e, Option.bind_some, zCtr], Or.inr ⟨zi_j (by omega) (by omega), hS12, _, _, K'⟩⟩
theorem gs5 {N S P pp : Nat} {le kn : Nat → Int} {il io : Nat → Bool} {sx sy : Nat → Nat → Int} {so : Nat → Nat} {co te : Nat → Int} {lt : Nat → Bool} {go : Nat → Nat → Nat} {px py : Nat → Nat → Int} {lo hi : Int} {cap : Nat → Nat → Int} {pen : Nat → Int} {m : dM} (K : zK N S P pp le kn il io sx sy so co te lt go px py lo hi cap pen m) {a b c d : Int} (hr : (-2147483648 ≤ a ∧ a < 2147483648) ∧ (-2147483648 ≤ b ∧ b < 2147483648) ∧ (-2147483648 ≤ c ∧ c < 2147483648) ∧ -2147483648 ≤ d ∧ d < 2147483648) : ∃ (v : Int64) (m' : dM), fL_act m 0 5 (Int32.ofInt a) (Int32.ofInt b) (Int32.ofInt c) (Int32.ofInt d) = some (v, m') ∧ (((v = -72 ∨ v = -73) ∧ zK N S P pp le kn il io sx sy so co te lt go px py lo hi cap pen m') ∨ (v = Int64.ofInt S ∧ S < 12 ∧ ∃ sx' sy', zK N (S + 1) P pp le kn il io sx' sy' so co te lt go px py lo hi cap pen m')) := by
  rcases K_blockX K hr with ⟨m', e, -, K'⟩ | ⟨hS12, m', e, K'⟩ | ⟨m', f, g, e, hS12, K'⟩
  · exact ⟨_, m', by rw [act5, e, Option.bind_some, zCt1], Or.inl ⟨Or.inl rfl, K'⟩⟩
  · exact ⟨_, m', by rw [act5, e, Option.bind_some, zCt2], Or.inl ⟨Or.inr rfl, K'⟩⟩
  · exact ⟨_, m', by rw [act5, e, Option.bind_some, zCtr], Or.inr ⟨zi_j (by omega) (by omega), hS12, _, _, K'⟩⟩
theorem gs6 {N S P pp : Nat} {le kn : Nat → Int} {il io : Nat → Bool} {sx sy : Nat → Nat → Int} {so : Nat → Nat} {co te : Nat → Int} {lt : Nat → Bool} {go : Nat → Nat → Nat} {px py : Nat → Nat → Int} {lo hi : Int} {cap : Nat → Nat → Int} {pen : Nat → Int} {m : dM} (K : zK N S P pp le kn il io sx sy so co te lt go px py lo hi cap pen m) {a b c : Int} {d0 : Int32} (hr : (-2147483648 ≤ a ∧ a < 2147483648) ∧ (-2147483648 ≤ b ∧ b < 2147483648) ∧ -2147483648 ≤ c ∧ c < 2147483648) : ∃ (v : Int64) (m' : dM), fL_act m 0 6 (Int32.ofInt a) (Int32.ofInt b) (Int32.ofInt c) d0 = some (v, m') ∧ (((v = -72 ∨ v = -73) ∧ zK N S P pp le kn il io sx sy so co te lt go px py lo hi cap pen m') ∨ (v = Int64.ofInt S ∧ S < 12 ∧ ∃ sx' sy', zK N (S + 1) P pp le kn il io sx' sy' so co te lt go px py lo hi cap pen m')) := by
  rcases K_wedgeX K hr with ⟨m', e, -, K'⟩ | ⟨hS12, m', e, K'⟩ | ⟨m', f, g, e, hS12, K'⟩
  · exact ⟨_, m', by rw [act6, e, Option.bind_some, zCt1], Or.inl ⟨Or.inl rfl, K'⟩⟩
  · exact ⟨_, m', by rw [act6, e, Option.bind_some, zCt2], Or.inl ⟨Or.inr rfl, K'⟩⟩
  · exact ⟨_, m', by rw [act6, e, Option.bind_some, zCtr], Or.inr ⟨zi_j (by omega) (by omega), hS12, _, _, K'⟩⟩
theorem g7 {N S P pp : Nat} {le kn : Nat → Int} {il io : Nat → Bool} {sx sy : Nat → Nat → Int} {so : Nat → Nat} {co te : Nat → Int} {lt : Nat → Bool} {go : Nat → Nat → Nat} {px py : Nat → Nat → Int} {lo hi : Int} {cap : Nat → Nat → Int} {pen : Nat → Int} {m : dM} (K : zK N S P pp le kn il io sx sy so co te lt go px py lo hi cap pen m) (bb : Bool) {a b c : Int} {d : Int32} (hd : zBo d = bb) (ha : 0 ≤ a ∧ a < S) (hb : 1 ≤ b ∧ b ≤ 64) (hc : 60 ≤ c ∧ c ≤ 240) (hP : P < 12) : ∃ (m' : dM) (go' : Nat → Nat → Nat), fL_act m 0 7 (Int32.ofInt a) (Int32.ofInt b) (Int32.ofInt c) d = some (Int64.ofInt P, m') ∧ zK N S (P + 1) pp le kn il io sx sy (zUp so P a.toNat) (zUp co P b) (zUp te P c) (zUp lt P bb) go' px py lo hi cap pen m' := by
  obtain ⟨m', go', e, K'⟩ := K_part K bb ha hb hc hP
  exact ⟨m', go', by rw [act7, zBo_eq, hd, e, Option.bind_some, zCtr, zi_j (by omega) (by omega)], K'⟩
theorem g8 {N S P pp : Nat} {le kn : Nat → Int} {il io : Nat → Bool} {sx sy : Nat → Nat → Int} {so : Nat → Nat} {co te : Nat → Int} {lt : Nat → Bool} {go : Nat → Nat → Nat} {px py : Nat → Nat → Int} {lo hi : Int} {cap : Nat → Nat → Int} {pen : Nat → Int} {m : dM} (K : zK N S P pp le kn il io sx sy so co te lt go px py lo hi cap pen m) {a b c d : Int} (ha : 0 ≤ a ∧ a < P) (hb : 0 ≤ b ∧ b < S) (hc : 1 ≤ c ∧ c ≤ 64) (hd : 60 ≤ d ∧ d ≤ 240) : ∃ (m' : dM) (go' : Nat → Nat → Nat), fL_act m 0 8 (Int32.ofInt a) (Int32.ofInt b) (Int32.ofInt c) (Int32.ofInt d) = some (1, m') ∧ zK N S P pp le kn il io sx sy (zUp so a.toNat b.toNat) (zUp co a.toNat c) (zUp te a.toNat d) (zUp lt a.toNat true) go' px py lo hi cap pen m' := by
  obtain ⟨m', go', e, K'⟩ := K_change K true ha hb hc hd
  exact ⟨m', go', by rw [act8, fL_change_eq, show fX11_change m 0 (Int32.ofInt a) (Int32.ofInt b) (Int32.ofInt c) (Int32.ofInt d) 1 = _ from e, Option.bind_some, dS_r, Option.bind_some, zCtr]; rfl, K'⟩
theorem g16 {N S P pp : Nat} {le kn : Nat → Int} {il io : Nat → Bool} {sx sy : Nat → Nat → Int} {so : Nat → Nat} {co te : Nat → Int} {lt : Nat → Bool} {go : Nat → Nat → Nat} {px py : Nat → Nat → Int} {lo hi : Int} {cap : Nat → Nat → Int} {pen : Nat → Int} {m : dM} (K : zK N S P pp le kn il io sx sy so co te lt go px py lo hi cap pen m) {a b : Int} {c d : Int32} (h : 0 ≤ a ∧ a ≤ b ∧ b ≤ 9999) : ∃ m', fL_act m 0 16 (Int32.ofInt a) (Int32.ofInt b) c d = some (1, m') ∧ zK N S P pp le kn il io sx sy so co te lt go px py a b cap pen m' := by
  obtain ⟨m', e, K'⟩ := K_clock K h
  exact ⟨m', by rw [act16, fL_clock_eq, e, Option.bind_some, dS_r, Option.bind_some, zCtr]; rfl, K'⟩
theorem g17 {N S P pp : Nat} {le kn : Nat → Int} {il io : Nat → Bool} {sx sy : Nat → Nat → Int} {so : Nat → Nat} {co te : Nat → Int} {lt : Nat → Bool} {go : Nat → Nat → Nat} {px py : Nat → Nat → Int} {lo hi : Int} {cap : Nat → Nat → Int} {pen : Nat → Int} {m : dM} (K : zK N S P pp le kn il io sx sy so co te lt go px py lo hi cap pen m) {a b c : Int} {d : Int32} (ha : 0 ≤ a ∧ a < 6) (hb : 0 ≤ b ∧ b < 4) (hc : 0 ≤ c ∧ c ≤ 1000) : ∃ (v : Int) (m' : dM), 0 ≤ v ∧ v ≤ 1000 ∧ fL_act m 0 17 (Int32.ofInt a) (Int32.ofInt b) (Int32.ofInt c) d = some (Int64.ofInt v, m') ∧ zK N S P pp le kn il io sx sy so co te lt go px py lo hi (zCap cap a.toNat b.toNat c) pen m' := by
  obtain ⟨m', e, K'⟩ := K_judge K ha hb hc
  have q := zPts_in (K'.2.2.2.2.2.2.2.2.1) (zT_in K.2.2.2.2.1).1 (zT_in K.2.2.2.2.1).2 (b := a.toNat) (by omega)
  exact ⟨_, m', q.1, q.2, by rw [act17, e, Option.bind_some, zCtr, zi_j (by omega) (by omega)], K'⟩
theorem g18 {N S P pp : Nat} {le kn : Nat → Int} {il io : Nat → Bool} {sx sy : Nat → Nat → Int} {so : Nat → Nat} {co te : Nat → Int} {lt : Nat → Bool} {go : Nat → Nat → Nat} {px py : Nat → Nat → Int} {lo hi : Int} {cap : Nat → Nat → Int} {pen : Nat → Int} {m : dM} (K : zK N S P pp le kn il io sx sy so co te lt go px py lo hi cap pen m) {a b : Int} {c d : Int32} (ha : 0 ≤ a ∧ a < 6) (hb : 0 ≤ b ∧ b ≤ 1000) : ∃ (v : Int) (m' : dM), 0 ≤ v ∧ v ≤ 1000 ∧ fL_act m 0 18 (Int32.ofInt a) (Int32.ofInt b) c d = some (Int64.ofInt v, m') ∧ zK N S P pp le kn il io sx sy so co te lt go px py lo hi cap (zUp pen a.toNat b) m' := by
  obtain ⟨m', e, K'⟩ := K_penalty K ha hb
  have q := zPts_in (K'.2.2.2.2.2.2.2.2.1) (zT_in K.2.2.2.2.1).1 (zT_in K.2.2.2.2.1).2 (b := a.toNat) (by omega)
  exact ⟨_, m', q.1, q.2, by rw [act18, e, Option.bind_some, zCtr, zi_j (by omega) (by omega)], K'⟩
theorem K_place {N S P pp : Nat} {le kn : Nat → Int} {il io : Nat → Bool} {sx sy : Nat → Nat → Int} {so : Nat → Nat} {co te : Nat → Int} {lt : Nat → Bool} {go : Nat → Nat → Nat} {px py : Nat → Nat → Int} {lo hi : Int} {cap : Nat → Nat → Int} {pen : Nat → Int} {m : dM} (K : zK N S P pp le kn il io sx sy so co te lt go px py lo hi cap pen m) {a b : Int} (h : (0 ≤ a ∧ a < P) ∧ 0 ≤ b ∧ b < N) : fX11_place m 0 (Int32.ofInt a) (Int32.ofInt b) = some (.inr (Int32.ofInt (go a.toNat b.toNat : Nat), m)) := by
  have hN := K.1.2.1
  have hP := K.2.2.2.2.1.1
  rw [fX11_place_ok K.1 K.2.1 K.2.2.2.2.1 K.2.2.2.2.2.1 (by omega) (by omega) (by omega) (by omega), if_pos h]
theorem K_walking {N S P pp : Nat} {le kn : Nat → Int} {il io : Nat → Bool} {sx sy : Nat → Nat → Int} {so : Nat → Nat} {co te : Nat → Int} {lt : Nat → Bool} {go : Nat → Nat → Nat} {px py : Nat → Nat → Int} {lo hi : Int} {cap : Nat → Nat → Int} {pen : Nat → Int} {m : dM} (K : zK N S P pp le kn il io sx sy so co te lt go px py lo hi cap pen m) {a : Int} (h : 0 ≤ a ∧ a < P) : fX11_walking m 0 (Int32.ofInt a) = some (.inr (Int64.ofInt (zWk sx sy so go a.toNat N), m)) := by
  have hP := K.2.2.2.2.1.1
  rw [fX11_walking_ok K.1 K.2.1 K.2.2.1 K.2.2.2.2.1 K.2.2.2.2.2.1 (by omega) (by omega), if_pos h]
theorem K_at {N S P pp : Nat} {le kn : Nat → Int} {il io : Nat → Bool} {sx sy : Nat → Nat → Int} {so : Nat → Nat} {co te : Nat → Int} {lt : Nat → Bool} {go : Nat → Nat → Nat} {px py : Nat → Nat → Int} {lo hi : Int} {cap : Nat → Nat → Int} {pen : Nat → Int} {m : dM} (K : zK N S P pp le kn il io sx sy so co te lt go px py lo hi cap pen m) {a b c : Int} (h : (0 ≤ a ∧ a < P) ∧ 0 ≤ c ∧ c < N) (hb : 0 ≤ b ∧ b ≤ co a.toNat) : fX11_at m 0 (Int32.ofInt a) (Int32.ofInt b) (Int32.ofInt c) = some (.inr (Int32.ofInt (zAt sx sy so co go a.toNat c.toNat b), m)) := by
  have hN := K.1.2.1
  have hP := K.2.2.2.2.1.1
  have q := K.2.2.2.2.1.2 a.toNat (by omega)
  rw [fX11_at_ok K.1 K.2.1 K.2.2.1 K.2.2.2.2.1 K.2.2.2.2.2.1 (a := a) (b := c) (c := b) (by omega) (by omega) (by omega) (by omega) (by omega) (by omega), if_pos h, if_pos hb]
theorem K_page {N S P pp : Nat} {le kn : Nat → Int} {il io : Nat → Bool} {sx sy : Nat → Nat → Int} {so : Nat → Nat} {co te : Nat → Int} {lt : Nat → Bool} {go : Nat → Nat → Nat} {px py : Nat → Nat → Int} {lo hi : Int} {cap : Nat → Nat → Int} {pen : Nat → Int} {m : dM} (K : zK N S P pp le kn il io sx sy so co te lt go px py lo hi cap pen m) {a b c : Int} (h : (0 ≤ a ∧ a < P) ∧ 0 ≤ b ∧ b < N) (hc : 0 ≤ c ∧ c ≤ 3) : fX11_page m 0 (Int32.ofInt a) (Int32.ofInt b) (Int32.ofInt c) = some (.inr (Int32.ofInt (zSay (zX sx so go a.toNat b.toNat) (zX sy so go a.toNat b.toNat) c.toNat), m)) := by
  have hN := K.1.2.1
  have hP := K.2.2.2.2.1.1
  rw [fX11_page_ok K.1 K.2.1 K.2.2.1 K.2.2.2.2.1 K.2.2.2.2.2.1 (by omega) (by omega) (by omega) (by omega) (by omega) (by omega), if_pos h, if_pos hc]
theorem K_rehearse {m : dM} {a b : Int} (h : (1 ≤ a ∧ a ≤ 9999) ∧ 0 ≤ b ∧ b ≤ 60) : fX11_rehearse m 0 (Int32.ofInt a) (Int32.ofInt b) = some (.inr (Int32.ofInt (zRe a b), m)) := by
  rw [fX11_rehearse_ok m (by omega) (by omega) (by omega) (by omega), if_pos h]
