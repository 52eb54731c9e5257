/-! loops of a function: for i = 0 .. n -/
theorem dlp_for {σ ρ : Type} {f : σ → Option (σ ⊕ ρ)} {r : ρ} (st : Nat → σ) : ∀ (j i n N : Nat), i + j = n → j < N → (∀ k, i ≤ k → k < n → f (st k) = some (.inl (st (k + 1)))) → f (st n) = some (.inr r) → dlp f N (st i) = some r
  | 0, i, n, 0, _, h, _, _ => absurd h (Nat.lt_irrefl 0)
  | 0, i, n, N + 1, h1, _, _, h4 => by
    obtain rfl : i = n := by omega
    show (f (st i)).bind _ = _
    rw [h4]; rfl
  | j + 1, i, n, 0, _, h, _, _ => absurd h (Nat.not_lt_zero _)
  | j + 1, i, n, N + 1, h1, h2, h3, h4 => by
    show (f (st i)).bind _ = _
    rw [h3 i (Nat.le_refl i) (by omega)]
    exact dlp_for st j (i + 1) n N (by omega) (by omega) (fun k hk => h3 k (by omega)) h4
theorem dIx_nI {i n : Nat} (h : i < n) (hn : n < 2 ^ 31) : dIx (nI i) n = true := by
  unfold dIx
  rw [nI_clamp (by omega), decide_eq_true (nI_pos' (by omega)), decide_eq_true h]; rfl
theorem dg_true {α : Type} {x : Option α} : dg true x = x := rfl
/-- rows a and b of m filled with v and w below n -/
def dFill (m : dM) (a b : Nat) (v w : Int32) (n : Nat) : dM := (fun x j => if x = a ∧ j < n then v else if x = b ∧ j < n then w else m.1 x j, m.2)
theorem dFill_0 {m : dM} {a b : Nat} {v w : Int32} : dFill m a b v w 0 = m := by
  unfold dFill
  refine Prod.ext (funext fun x => funext fun j => ?_) rfl
  simp
theorem dFill_s {m : dM} {a b : Nat} {v w : Int32} {n : Nat} (hab : a ≠ b) : d1 (d1 (dFill m a b v w n) a n v) b n w = dFill m a b v w (n + 1) := by
  unfold dFill d1
  refine Prod.ext (funext fun x => funext fun j => ?_) rfl
  show (if x = b ∧ j = n then w else if x = a ∧ j = n then v else if x = a ∧ j < n then v else if x = b ∧ j < n then w else m.1 x j) = (if x = a ∧ j < n + 1 then v else if x = b ∧ j < n + 1 then w else m.1 x j)
  by_cases hb : x = b
  · have ha : ¬ x = a := fun h => hab (h.symm.trans hb)
    by_cases h1 : j = n
    · simp [hb, h1, Ne.symm hab]
    · by_cases h2 : j < n
      · simp [hb, h1, h2, Ne.symm hab, Nat.lt_succ_of_lt h2]
      · simp [hb, h1, h2, Ne.symm hab, show ¬ j < n + 1 by omega]
  · by_cases ha : x = a
    · by_cases h1 : j = n
      · simp [ha, h1, hab]
      · by_cases h2 : j < n
        · simp [ha, h1, h2, hab, Nat.lt_succ_of_lt h2]
        · simp [ha, h1, h2, hab, show ¬ j < n + 1 by omega]
    · simp [ha, hb]
def dBegin (m : dM) (k : Int32) : dM := dFill (dFill (d1 m 1 4 k) 2 3 14 0 10) 4 5 (-1) 0 3
theorem fX1_begin_eq (m : dM) (p1 : Int32) : fX1_begin m 1 p1 = some (dBegin m (if 10 < p1 then 10 else p1)) := by
  unfold fX1_begin dBegin
  rw [show dkg 1 2 = true from by decide +kernel, dg_true]
  unfold dlet
  generalize d1 m 1 4 (if 10 < p1 then 10 else p1) = m1
  have h1 : dlp (fun q => dP2 q (fun v3 m4 => fX1_begin_l12 v3 m4)) dFl (0, m1) = some (dFill m1 2 3 14 0 10) := by
    have := dlp_for (f := fun q => dP2 q (fun v3 m4 => fX1_begin_l12 v3 m4)) (r := dFill m1 2 3 14 0 10) (fun i => (nI i, dFill m1 2 3 14 0 i)) 10 0 10 dFl rfl (by decide) (fun k _ hk => by
      show fX1_begin_l12 (nI k) (dFill m1 2 3 14 0 k) = _
      unfold fX1_begin_l12
      rw [if_neg (show ¬ (10 : Int32) ≤ nI k from nI_ge hk (by decide)), show dL 2 = 10 from by decide +kernel, show dL 3 = 10 from by decide +kernel]
      simp only [dlet, dIx_nI hk (by decide), dg_true, nI_clamp (show k < 2 ^ 31 by omega)]
      rw [dFill_s (by decide), nI_1]) (by
      show fX1_begin_l12 10 (dFill m1 2 3 14 0 10) = _
      unfold fX1_begin_l12
      rw [if_pos (by decide)])
    rw [dFill_0] at this
    exact this
  show (dlp (fun q => dP2 q (fun v3 m4 => fX1_begin_l12 v3 m4)) dFl (0, m1)).bind _ = _
  rw [h1]
  show ((dlp (fun q => dP2 q (fun v13 m14 => fX1_begin_l41 v13 m14)) dFl (0, dFill m1 2 3 14 0 10)).bind (fun q => dP1 q (fun m21 => some m21))) = _
  generalize dFill m1 2 3 14 0 10 = m2
  have h2 : dlp (fun q => dP2 q (fun v13 m14 => fX1_begin_l41 v13 m14)) dFl (0, m2) = some (dFill m2 4 5 (-1) 0 3) := by
    have := dlp_for (f := fun q => dP2 q (fun v13 m14 => fX1_begin_l41 v13 m14)) (r := dFill m2 4 5 (-1) 0 3) (fun i => (nI i, dFill m2 4 5 (-1) 0 i)) 3 0 3 dFl rfl (by decide) (fun k _ hk => by
      show fX1_begin_l41 (nI k) (dFill m2 4 5 (-1) 0 k) = _
      unfold fX1_begin_l41
      rw [if_neg (show ¬ (3 : Int32) ≤ nI k from nI_ge hk (by decide)), show dL 4 = 3 from by decide +kernel, show dL 5 = 3 from by decide +kernel]
      simp only [dlet, dIx_nI hk (by decide), dg_true, nI_clamp (show k < 2 ^ 31 by omega)]
      rw [dFill_s (by decide), nI_1]) (by
      show fX1_begin_l41 3 (dFill m2 4 5 (-1) 0 3) = _
      unfold fX1_begin_l41
      rw [if_pos (by decide)])
    rw [dFill_0] at this
    exact this
  rw [h2]
  rfl
/-- the rows behind the starts are the initial ones -/
theorem dI_dots {i : Nat} (h : 1 ≤ i ∧ i < 6) : (dBegin dZ 4).1 i = dI.1 i := by
  have h6 : dK i ≠ 6 ∧ dK i ≠ 3 := (show ∀ i, i < 6 → dK i ≠ 6 ∧ dK i ≠ 3 by decide +kernel) i h.2
  funext k
  rcases (show i = 1 ∨ i = 2 ∨ i = 3 ∨ i = 4 ∨ i = 5 by omega) with rfl | rfl | rfl | rfl | rfl <;> simp [dBegin, dFill, d1, dZ, dZ1, dI, dI1, h6.1, h6.2]
/-! a world of the n ids from c on alone -/
abbrev dwr (g : dG) (c n : Nat) (m : dM) : va_W := dWL g (dad g) m (List.range' c n)
theorem dga_self {g : dG} : dga g (dad g) = g := rfl
theorem dwr_get {g : dG} {c n i : Nat} {m : dM} (h : c ≤ i ∧ i < c + n) : (dwr g c n m)[i - c]? = some (dad g i, dct g m i) := by
  unfold dwr dWL
  rw [List.getElem?_map, List.getElem?_range' (by omega)]
  simp only [Option.map_some, Nat.one_mul]
  rw [show c + (i - c) = i by omega]
  rfl
theorem dwr_set {g : dG} {c n i : Nat} {m m' : dM} {e : va_E} (h : c ≤ i ∧ i < c + n) (he : dct g m' i = e) (ho : ∀ j, j ≠ i → dct g m' j = dct g m j) : (dwr g c n m).set (i - c) (dad g i, e) = dwr g c n m' := by
  have hlen : ∀ m, (dwr g c n m).length = n := fun m => by simp [dwr, dWL]
  apply List.ext_getElem?
  intro j
  by_cases hj : j = i - c
  · subst hj; rw [List.getElem?_set_self (by rw [hlen]; omega), dwr_get h, he]
  · rw [List.getElem?_set_ne (Ne.symm hj)]
    rcases Nat.lt_or_ge j n with q | q
    · have e1 := dwr_get (g := g) (m := m) (i := c + j) (c := c) (n := n) (by omega)
      have e2 := dwr_get (g := g) (m := m') (i := c + j) (c := c) (n := n) (by omega)
      rw [show c + j - c = j by omega] at e1 e2
      rw [e1, e2, ho (c + j) (by omega)]
    · rw [List.getElem?_eq_none (by rw [hlen]; exact q), List.getElem?_eq_none (by rw [hlen]; exact q)]
theorem dwr_D {A : Nat → Prop} {g : dG} {c n : Nat} {m m' : dM} (h : va_D A (dwr g c n m)) : va_D A (dwr g c n m') := by
  have key : ∀ (k : Nat) (q : Nat × va_E), (dwr g c n m')[k]? = some q → ∃ q0, (dwr g c n m)[k]? = some q0 ∧ q0.1 = q.1 := fun k q hq => by
    unfold dwr dWL at hq ⊢
    rw [List.getElem?_map] at hq ⊢
    cases hr : (List.range' c n)[k]? with
    | none => rw [hr] at hq; cases hq
    | some i => rw [hr] at hq; cases hq; exact ⟨_, rfl, rfl⟩
  refine ⟨fun i j x y hi hj hxy => ?_, fun k q hk => ?_⟩
  · obtain ⟨x0, h1, h2⟩ := key i x hi
    obtain ⟨y0, h3, h4⟩ := key j y hj
    exact h.1 i j x0 y0 h1 h3 (h2.trans (hxy.trans h4.symm))
  · obtain ⟨q0, h1, h2⟩ := key k q hk
    rw [← h2]; exact h.2 k q0 h1
def dlIn (g : dG) (c n : Nat) (m : dM) (U : State) : Prop := va_K g.1 vwCl (dTys g) U ∧ va_P g.1 vwCl (dwr g c n m) U.heap
theorem dlBlind {g : dG} {c n : Nat} {m : dM} {av : List Value} : FrameBlind (va_Pc av (dlIn g c n m)) := fun a U f mk h => ⟨h.1, va_K.moved (u := U) (U := U.calling f mk a) (Vm.Alike.refl U.vm) h.2.1, h.2.2⟩
abbrev dlQV (g : dG) (c n : Nat) (A : Nat → Prop) (m0 : dM) : Array Value → State → Outcome → State → Prop := va_Qv (fun (u : dM) => u = m0) (fun u t => va_P g.1 vwCl (dwr g c n u) t.heap) A
section DL
variable {p : Program} {l : Launch} {e : Env} {R : Room} {s : State} {m : MethodId} {args : Array Value} {below : List Frame} {meth : Method} {cd : Code} {H : Heap} {locs : List Loc} {cells slots : Nat} {Q : State → Prop}
variable {g : dG} {mm m0 : dM} {cc bytes : ByteArray} {nL maxL index i k pc c n : Nat} {ls : Array Slot} {rest st0 : List Value} {Ts ws : List Cond} {own C host : String} {y : MethodName} {ret : Option FieldType} {rm : Room} {A : Nat → Prop}
theorem dl_of {l : Launch} {g : dG} {y : MethodName} {ws ws' : List Cond} {rm : Room} {cc : ByteArray} {maxL : Nat} {ret : Option FieldType} {mm : dM} {c n : Nat} {A : Nat → Prop} {Qc : Array Value → State → Outcome → State → Prop} (av : List Value) (hy : plainName y.cls = true) (hw : ws = Cond.code y cc maxL ret :: ws') (hlen : (lg_sl av).length ≤ maxL)
    (body : ∀ (p : Program) (e : Env) (s : State) (m : MethodId) (below : List Frame) (meth : Method) (cd : Code), CallFix p m cd cc maxL s av.toArray ws y.cls → meth.sig.returnType = ret → meth.locks = false → va_K g.1 vwCl (dTys g) s → ∀ (H : Heap) (ls : Array Slot), va_P g.1 vwCl (dwr g c n mm) H → va_S A s.heap H [] → lv_has ls maxL (lv_args 0 av) →
      W p l e (headSpec ws rm).room s m av.toArray below meth cd H [] 0 0 (MQ below Qc av.toArray s 0 0 A) (F0 m 0 ls [])) : Met l y ws rm (va_Pc av (dlIn g c n mm)) Qc 0 0 A := by
  refine Met.ofW (cc := cc) (maxL := maxL) (ret := ret) hy hw ?_
  intro p e s m args below meth cd s₁ B hml hv
  obtain ⟨rfl, hE, hP⟩ := hv
  have hl := lv_entry av (n := maxL) hlen
  rw [lg_entry_eq]
  exact body p e s m below meth cd ⟨B.exec, B.bytes, hml, findClass_of_methodNamed B.named, atoms_spec (ws := ws) B.pre⟩ B.returns B.notSynchronized hE s.heap _ hP va_S.rf hl
theorem dl_iast (S : CallFix p m cd cc nL s args Ts own) (hE : va_K g.1 vwCl (dTys g) s) (hP : va_P g.1 vwCl (dwr g c n mm) H) (hDr : ∀ m, va_D A (dwr g c n m)) (hS : va_S A s.heap H locs) (hr : c ≤ i ∧ i < c + n) (hk : dK i = 20) {j x : Int32} (hin : dIx j (dL i) = true) (hdg : decode cc pc = .ok (.iastore, 1))
    (kk : ∀ (H1 : Heap) (locs1 : List Loc), va_P g.1 vwCl (dwr g c n (d1 mm i j.toNatClampNeg x)) H1 → va_S A s.heap H1 locs1 → W p l e R s m args below meth cd H1 locs1 cells slots Q (F0 m (pc + 1) ls rest)) : W p l e R s m args below meth cd H locs cells slots Q (F0 m pc ls (.int x :: .int j :: .ref (dad g i) :: rest)) :=
  va_iast S.1 S.2.1 hE hP (hDr mm) hS (i - c) 0 ((dwr_get hr).trans (by rw [← dga_self (g := g), dck20 hk]; rfl)) rfl (dIx_in hin) hdg (fun H1 l1 h1 _ h3 => kk H1 l1 (by rw [dwr_set hr (m' := d1 mm i j.toNatClampNeg x) (by rw [← dga_self (g := g), dck20 hk, d1_row]; rfl) dct_d1] at h1; exact h1) h3)
theorem dl_zast (S : CallFix p m cd cc nL s args Ts own) (hE : va_K g.1 vwCl (dTys g) s) (hP : va_P g.1 vwCl (dwr g c n mm) H) (hDr : ∀ m, va_D A (dwr g c n m)) (hS : va_S A s.heap H locs) (hr : c ≤ i ∧ i < c + n) (hk : dK i = 21) {j x : Int32} (hin : dIx j (dL i) = true) (hx : dB x = true) (hdg : decode cc pc = .ok (.bastore, 1))
    (kk : ∀ (H1 : Heap) (locs1 : List Loc), va_P g.1 vwCl (dwr g c n (d1 mm i j.toNatClampNeg x)) H1 → va_S A s.heap H1 locs1 → W p l e R s m args below meth cd H1 locs1 cells slots Q (F0 m (pc + 1) ls rest)) : W p l e R s m args below meth cd H locs cells slots Q (F0 m pc ls (.int x :: .int j :: .ref (dad g i) :: rest)) :=
  va_zast S.1 S.2.1 hE hP (hDr mm) hS (i - c) 1 ((dwr_get hr).trans (by rw [← dga_self (g := g), dck21 hk]; rfl)) rfl (dIx_in hin) hdg (fun H1 l1 h1 _ h3 => kk H1 l1 (by rw [dB_nar hx, dwr_set hr (m' := d1 mm i j.toNatClampNeg x) (by rw [← dga_self (g := g), dck21 hk, d1_row]; rfl) dct_d1] at h1; exact h1) h3)
theorem dl_tv (S : CallFix p m cd cc nL s args Ts own) (hr : meth.sig.returnType = none) (hlk : meth.locks = false) (hP : va_P g.1 vwCl (dwr g c n m0) H) (hS : va_S A s.heap H locs) (hdg : decode cc pc = .ok (.return_, 1)) :
    W p l e R s m args below meth cd H locs cells slots (MQ below (dlQV g c n A m0) args s cells slots A) (F0 m pc ls []) :=
  W.vret S.1 S.2.1 hr (fun t ht hW => ⟨⟨m0, rfl, rfl, by show va_P g.1 vwCl (dwr g c n m0) t.heap; rw [ht]; exact hP⟩, hS.F ht⟩) hS.2.2 hdg hlk
theorem dlgf1_0 (S : CallFix p m cd cc nL s args Ts own) (hin : ∀ w ∈ wsX10, w ∈ Ts) (hE : va_K g.1 vwCl (dTys g) s) (hP : va_P g.1 vwCl (dwr g c n mm) H) (hr : c ≤ i ∧ i < c + n) (hk : dK i = 2) (hlink : (Cond.fieldLink own index "DrillField$Dots" "legs" "[I").before args s = true) (hdg : decode cc pc = .ok (.getfield index, 3)) (kk : W p l e R s m args below meth cd H locs cells slots Q (F0 m (pc + 3) ls (.ref (dad g 2) :: rest))) : W p l e R s m args below meth cd H locs cells slots Q (F0 m pc ls (.ref (dad g i) :: rest)) :=
  va_get (D := g.1) (ci := 1) (v := .ref (dad g 2)) (C := RX1) (T := TX1) (N := 5) S.1 S.2.1 S.2.2.2.2 hin S.2.2.2.1 hE hP (i - c) ((dwr_get hr).trans (by rw [← dga_self (g := g), dck2 hk])) rfl 0 (by decide) hlink (fun _ h => h) rfl hdg kk
theorem dlgf1_1 (S : CallFix p m cd cc nL s args Ts own) (hin : ∀ w ∈ wsX10, w ∈ Ts) (hE : va_K g.1 vwCl (dTys g) s) (hP : va_P g.1 vwCl (dwr g c n mm) H) (hr : c ≤ i ∧ i < c + n) (hk : dK i = 2) (hlink : (Cond.fieldLink own index "DrillField$Dots" "isIll" "[Z").before args s = true) (hdg : decode cc pc = .ok (.getfield index, 3)) (kk : W p l e R s m args below meth cd H locs cells slots Q (F0 m (pc + 3) ls (.ref (dad g 3) :: rest))) : W p l e R s m args below meth cd H locs cells slots Q (F0 m pc ls (.ref (dad g i) :: rest)) :=
  va_get (D := g.1) (ci := 1) (v := .ref (dad g 3)) (C := RX1) (T := TX1) (N := 5) S.1 S.2.1 S.2.2.2.2 hin S.2.2.2.1 hE hP (i - c) ((dwr_get hr).trans (by rw [← dga_self (g := g), dck2 hk])) rfl 1 (by decide) hlink (fun _ h => h) rfl hdg kk
theorem dlgf1_2 (S : CallFix p m cd cc nL s args Ts own) (hin : ∀ w ∈ wsX10, w ∈ Ts) (hE : va_K g.1 vwCl (dTys g) s) (hP : va_P g.1 vwCl (dwr g c n mm) H) (hr : c ≤ i ∧ i < c + n) (hk : dK i = 2) (hlink : (Cond.fieldLink own index "DrillField$Dots" "known" "[I").before args s = true) (hdg : decode cc pc = .ok (.getfield index, 3)) (kk : W p l e R s m args below meth cd H locs cells slots Q (F0 m (pc + 3) ls (.ref (dad g 4) :: rest))) : W p l e R s m args below meth cd H locs cells slots Q (F0 m pc ls (.ref (dad g i) :: rest)) :=
  va_get (D := g.1) (ci := 1) (v := .ref (dad g 4)) (C := RX1) (T := TX1) (N := 5) S.1 S.2.1 S.2.2.2.2 hin S.2.2.2.1 hE hP (i - c) ((dwr_get hr).trans (by rw [← dga_self (g := g), dck2 hk])) rfl 2 (by decide) hlink (fun _ h => h) rfl hdg kk
theorem dlgf1_3 (S : CallFix p m cd cc nL s args Ts own) (hin : ∀ w ∈ wsX10, w ∈ Ts) (hE : va_K g.1 vwCl (dTys g) s) (hP : va_P g.1 vwCl (dwr g c n mm) H) (hr : c ≤ i ∧ i < c + n) (hk : dK i = 2) (hlink : (Cond.fieldLink own index "DrillField$Dots" "isAlternateIll" "[Z").before args s = true) (hdg : decode cc pc = .ok (.getfield index, 3)) (kk : W p l e R s m args below meth cd H locs cells slots Q (F0 m (pc + 3) ls (.ref (dad g 5) :: rest))) : W p l e R s m args below meth cd H locs cells slots Q (F0 m pc ls (.ref (dad g i) :: rest)) :=
  va_get (D := g.1) (ci := 1) (v := .ref (dad g 5)) (C := RX1) (T := TX1) (N := 5) S.1 S.2.1 S.2.2.2.2 hin S.2.2.2.1 hE hP (i - c) ((dwr_get hr).trans (by rw [← dga_self (g := g), dck2 hk])) rfl 3 (by decide) hlink (fun _ h => h) rfl hdg kk
theorem dlgf1_4 (S : CallFix p m cd cc nL s args Ts own) (hin : ∀ w ∈ wsX10, w ∈ Ts) (hE : va_K g.1 vwCl (dTys g) s) (hP : va_P g.1 vwCl (dwr g c n mm) H) (hr : c ≤ i ∧ i < c + n) (hk : dK i = 2) (hlink : (Cond.fieldLink own index "DrillField$Dots" "number" "I").before args s = true) (hdg : decode cc pc = .ok (.getfield index, 3)) (kk : W p l e R s m args below meth cd H locs cells slots Q (F0 m (pc + 3) ls (.int (mm.1 i 4) :: rest))) : W p l e R s m args below meth cd H locs cells slots Q (F0 m pc ls (.ref (dad g i) :: rest)) :=
  va_get (D := g.1) (ci := 1) (v := .int (mm.1 i 4)) (C := RX1) (T := TX1) (N := 5) S.1 S.2.1 S.2.2.2.2 hin S.2.2.2.1 hE hP (i - c) ((dwr_get hr).trans (by rw [← dga_self (g := g), dck2 hk])) rfl 4 (by decide) hlink (fun _ h => h) rfl hdg kk
theorem dlpf1_4 (S : CallFix p m cd cc nL s args Ts own) (hin : ∀ w ∈ wsX10, w ∈ Ts) (hE : va_K g.1 vwCl (dTys g) s) (hP : va_P g.1 vwCl (dwr g c n mm) H) (hDr : ∀ m, va_D A (dwr g c n m)) (hS : va_S A s.heap H locs) (hr : c ≤ i ∧ i < c + n) (hk : dK i = 2) {x : Int32} (hlink : (Cond.fieldLink own index "DrillField$Dots" "number" "I").before args s = true) (hdg : decode cc pc = .ok (.putfield index, 3)) (kk : ∀ (H1 : Heap) (locs1 : List Loc), va_P g.1 vwCl (dwr g c n (d1 mm i 4 x)) H1 → va_S A s.heap H1 locs1 → W p l e R s m args below meth cd H1 locs1 cells slots Q (F0 m (pc + 3) ls rest)) : W p l e R s m args below meth cd H locs cells slots Q (F0 m pc ls (.int x :: .ref (dad g i) :: rest)) :=
  va_put (D := g.1) (ci := 1) (v := .int x) (ty := .int) (C := RX1) (T := TX1) (N := 5) S.1 S.2.1 S.2.2.2.2 hin tyX1 tyX1_ok nmX1 S.2.2.2.1 hE hP (hDr mm) hS (i - c) ((dwr_get hr).trans (by rw [← dga_self (g := g), dck2 hk])) rfl 4 (by decide) hlink (fun _ h => h) rfl (by decide +kernel) rfl rfl (Nat.le_of_ble_eq_true rfl) hdg (fun H1 l1 h1 _ h3 => kk H1 l1 (by rw [← dwr_set hr (m' := d1 mm i 4 x) (e := _) rfl dct_d1, show dct g (d1 mm i 4 x) i = _ from by rw [← dga_self (g := g), dck2 hk]]; simpa [d1] using h1) h3)
end DL
set_option maxHeartbeats 4000000 in
set_option maxRecDepth 100000 in
theorem klX1_begin (l : Launch) (g : dG) {m : dM} {p1 : Int32} {m0 : dM} (h : fX1_begin m 1 p1 = some m0) (A : Nat → Prop) (hDr : ∀ m, va_D A (dwr g 1 5 m)) : Met l yX1_begin wsX1_begin (dRm 1 21) (va_Pc [.ref (dad g 1), .int p1] (dlIn g 1 5 m)) (dlQV g 1 5 A m0) 0 0 A := by
  refine dl_of (cc := cX1_begin) (maxL := 3) (ret := none) _ (by decide) rfl (Nat.le_of_ble_eq_true rfl) ?_
  intro p e s mth below meth cd S hr hlk hE H ls hP hS hl
  have S : CallFix p mth cd cX1_begin 3 s _ wsX1_begin RX1 := S
  have hl : lv_has ls 3 [(0, .ref (dad g 1)), (1, .int p1)] := hl
  obtain ⟨locs, hlocs⟩ : ∃ z : List Loc, z = [] := ⟨_, rfl⟩
  rw [← hlocs] at hS ⊢
  have in1 : ∀ w ∈ wsX10, w ∈ wsX1_begin := by decide +kernel
  unfold fX1_begin at h
  obtain ⟨k0, h⟩ := d_g h
  have k0 := d_k k0
  refine lv_aload_n S.1 S.2.1 dX1_begin_0 rfl (lv_at hl 0 rfl) ?_
  refine lv_iload_n S.1 S.2.1 dX1_begin_1 rfl (lv_at hl 1 rfl) ?_
  refine lv_bipush (v := 10) S.1 S.2.1 dX1_begin_2 (by decide) ?_
  refine va_mmin S.1 S.2.1 (S.2.2.1.trans hl.1.symm) S.2.2.2.1 (S.2.2.2.2 (.methodLink RX1 29 Lib.Math.min.name) (List.mem_of_getElem? (i := 1) rfl)) (S.2.2.2.2 (.static Lib.Math.min.name) (List.mem_of_getElem? (i := 2) rfl)) (S.2.2.2.2 (.initialized "java/lang/Math") (List.mem_of_getElem? (i := 3) rfl)) (S.2.2.2.2 (.code Lib.Math.min.name Lib.Math.min.code 2 (some .int)) (List.mem_of_getElem? (i := 4) rfl)) (Nat.le_of_ble_eq_true rfl) (Nat.le_of_ble_eq_true rfl) (Nat.le_of_ble_eq_true rfl) (Nat.le_of_ble_eq_true rfl) dX1_begin_4 ?_
  refine dlpf1_4 S in1 hE hP hDr hS (by decide) k0 (S.2.2.2.2 (.fieldLink RX1 35 "DrillField$Dots" "number" "I") (List.mem_of_getElem? (i := 5) rfl)) dX1_begin_7 (fun H locs hP hS => ?_)
  obtain ⟨m1, em1⟩ : ∃ z : dM, z = d1 m 1 4 (if 10 < p1 then 10 else p1) := ⟨_, rfl⟩
  have h := d_let em1 h
  rw [← em1] at hP
  refine lv_iconst (v := 0) S.1 S.2.1 dX1_begin_10 (by decide) ?_
  refine lv_istore_n (lv' := [(2, .int 0), (0, .ref (dad g 1)), (1, .int p1)]) S.1 S.2.1 dX1_begin_11 rfl hl (by decide) rfl (fun ls hl => ?_)
  obtain ⟨qL2, hqL2, h⟩ := d_b h
  refine d_lp (Hd := fun q => match q with | (v3, m4) => ∀ (H : Heap) (locs : List Loc) (ls : Array Slot), va_P g.1 vwCl (dwr g 1 5 m4) H → va_S A s.heap H locs → lv_has ls 3 [(2, .int v3), (0, .ref (dad g 1))] → W p l e (headSpec wsX1_begin (dRm 1 21)).room s mth (([.ref (dad g 1), .int p1] : List Value).toArray) below meth cd H locs 0 0 (MQ below (dlQV g 1 5 A m0) (([.ref (dad g 1), .int p1] : List Value).toArray) s 0 0 A) (F0 mth 12 ls [])) (K := fun q => (fun (m11 : _) => ∀ (H : Heap) (locs : List Loc) (ls : Array Slot), va_P g.1 vwCl (dwr g 1 5 m11) H → va_S A s.heap H locs → lv_has ls 3 [(0, .ref (dad g 1))] → W p l e (headSpec wsX1_begin (dRm 1 21)).room s mth (([.ref (dad g 1), .int p1] : List Value).toArray) below meth cd H locs 0 0 (MQ below (dlQV g 1 5 A m0) (([.ref (dad g 1), .int p1] : List Value).toArray) s 0 0 A) (F0 mth 39 ls [])) q) ?_ dFl _ qL2 hqL2 ?_ H locs ls hP hS (lv_sub hl [0, 1] rfl)
  · intro q o h hCL2 hEL2
    obtain ⟨v3, m4⟩ := q
    have h : fX1_begin_l12 v3 m4 = some o := h
    intro H locs ls hP hS hl
    have hP : va_P g.1 vwCl (dwr g 1 5 m4) H := hP
    have hl : lv_has ls 3 [(2, .int v3), (0, .ref (dad g 1))] := hl
    unfold fX1_begin_l12 at h
    refine lv_iload_n S.1 S.2.1 dX1_begin_12 rfl (lv_at hl 0 rfl) ?_
    refine lv_bipush (v := 10) S.1 S.2.1 dX1_begin_13 (by decide) ?_
    refine lv_icmp_ge (tgt := 39) S.1 S.2.1 dX1_begin_15 (by decide) (fun cq => ?_) (fun cq => ?_)
    · have h := d_t cq h
      obtain rfl := Option.some.inj h
      exact hEL2 _ rfl H locs ls hP hS (lv_sub hl [1] rfl)
    · have h := d_f cq h
      refine lv_aload_n S.1 S.2.1 dX1_begin_18 rfl (lv_at hl 1 rfl) ?_
      refine dlgf1_0 S in1 hE hP (by decide) k0 (S.2.2.2.2 (.fieldLink RX1 9 "DrillField$Dots" "legs" "[I") (List.mem_of_getElem? (i := 6) rfl)) dX1_begin_19 ?_
      refine lv_iload_n S.1 S.2.1 dX1_begin_22 rfl (lv_at hl 0 rfl) ?_
      refine lv_bipush (v := 14) S.1 S.2.1 dX1_begin_23 (by decide) ?_
      obtain ⟨hi, h⟩ := d_g h
      refine dl_iast S hE hP hDr hS (by decide) dk_2 hi dX1_begin_25 (fun H locs hP hS => ?_)
      obtain ⟨m8, em8⟩ : ∃ z : dM, z = d1 m4 2 (Int32.toNatClampNeg (v3)) 14 := ⟨_, rfl⟩
      have h := d_let em8 h
      rw [← em8] at hP
      refine lv_aload_n S.1 S.2.1 dX1_begin_26 rfl (lv_at hl 1 rfl) ?_
      refine dlgf1_1 S in1 hE hP (by decide) k0 (S.2.2.2.2 (.fieldLink RX1 15 "DrillField$Dots" "isIll" "[Z") (List.mem_of_getElem? (i := 7) rfl)) dX1_begin_27 ?_
      refine lv_iload_n S.1 S.2.1 dX1_begin_30 rfl (lv_at hl 0 rfl) ?_
      refine lv_iconst (v := 0) S.1 S.2.1 dX1_begin_31 (by decide) ?_
      obtain ⟨hi, h⟩ := d_g h
      refine dl_zast S hE hP hDr hS (by decide) dk_3 hi (by decide) dX1_begin_32 (fun H locs hP hS => ?_)
      obtain ⟨m9, em9⟩ : ∃ z : dM, z = d1 m8 3 (Int32.toNatClampNeg (v3)) 0 := ⟨_, rfl⟩
      have h := d_let em9 h
      rw [← em9] at hP
      obtain ⟨v10, ev10⟩ : ∃ z : Int32, z = v3 + 1 := ⟨_, rfl⟩
      have h := d_let ev10 h
      refine lv_iinc (v := v10) (lv' := [(2, .int v10), (0, .ref (dad g 1))]) S.1 S.2.1 dX1_begin_33 hl (k := 0) rfl (by rw [ev10]; rfl) (by decide) rfl (fun ls hl => ?_)
      refine lv_goto (tgt := 12) S.1 S.2.1 dX1_begin_36 (by decide) ?_
      obtain rfl := Option.some.inj h
      exact hCL2 _ rfl H locs ls hP hS (lv_sub hl [0, 1] rfl)
  · obtain ⟨m11, rfl⟩ : ∃ z, z = qL2 := ⟨_, rfl⟩
    have h := d_p1 h
    intro H locs ls hP hS hl
    have hP : va_P g.1 vwCl (dwr g 1 5 m11) H := hP
    have hl : lv_has ls 3 [(0, .ref (dad g 1))] := hl
    refine lv_iconst (v := 0) S.1 S.2.1 dX1_begin_39 (by decide) ?_
    refine lv_istore_n (lv' := [(2, .int 0), (0, .ref (dad g 1))]) S.1 S.2.1 dX1_begin_40 rfl hl (by decide) rfl (fun ls hl => ?_)
    obtain ⟨qL12, hqL12, h⟩ := d_b h
    refine d_lp (Hd := fun q => match q with | (v13, m14) => ∀ (H : Heap) (locs : List Loc) (ls : Array Slot), va_P g.1 vwCl (dwr g 1 5 m14) H → va_S A s.heap H locs → lv_has ls 3 [(2, .int v13), (0, .ref (dad g 1))] → W p l e (headSpec wsX1_begin (dRm 1 21)).room s mth (([.ref (dad g 1), .int p1] : List Value).toArray) below meth cd H locs 0 0 (MQ below (dlQV g 1 5 A m0) (([.ref (dad g 1), .int p1] : List Value).toArray) s 0 0 A) (F0 mth 41 ls [])) (K := fun q => (fun (m21 : _) => ∀ (H : Heap) (locs : List Loc) (ls : Array Slot), va_P g.1 vwCl (dwr g 1 5 m21) H → va_S A s.heap H locs → lv_has ls 3 [] → W p l e (headSpec wsX1_begin (dRm 1 21)).room s mth (([.ref (dad g 1), .int p1] : List Value).toArray) below meth cd H locs 0 0 (MQ below (dlQV g 1 5 A m0) (([.ref (dad g 1), .int p1] : List Value).toArray) s 0 0 A) (F0 mth 66 ls [])) q) ?_ dFl _ qL12 hqL12 ?_ H locs ls hP hS (lv_sub hl [0, 1] rfl)
    · intro q o h hCL12 hEL12
      obtain ⟨v13, m14⟩ := q
      have h : fX1_begin_l41 v13 m14 = some o := h
      intro H locs ls hP hS hl
      have hP : va_P g.1 vwCl (dwr g 1 5 m14) H := hP
      have hl : lv_has ls 3 [(2, .int v13), (0, .ref (dad g 1))] := hl
      unfold fX1_begin_l41 at h
      refine lv_iload_n S.1 S.2.1 dX1_begin_41 rfl (lv_at hl 0 rfl) ?_
      refine lv_iconst (v := 3) S.1 S.2.1 dX1_begin_42 (by decide) ?_
      refine lv_icmp_ge (tgt := 66) S.1 S.2.1 dX1_begin_43 (by decide) (fun cq => ?_) (fun cq => ?_)
      · have h := d_t cq h
        obtain rfl := Option.some.inj h
        exact hEL12 _ rfl H locs ls hP hS (lv_sub hl [] rfl)
      · have h := d_f cq h
        refine lv_aload_n S.1 S.2.1 dX1_begin_46 rfl (lv_at hl 1 rfl) ?_
        refine dlgf1_2 S in1 hE hP (by decide) k0 (S.2.2.2.2 (.fieldLink RX1 19 "DrillField$Dots" "known" "[I") (List.mem_of_getElem? (i := 8) rfl)) dX1_begin_47 ?_
        refine lv_iload_n S.1 S.2.1 dX1_begin_50 rfl (lv_at hl 0 rfl) ?_
        refine lv_iconst (v := (-1)) S.1 S.2.1 dX1_begin_51 (by decide) ?_
        obtain ⟨hi, h⟩ := d_g h
        refine dl_iast S hE hP hDr hS (by decide) dk_4 hi dX1_begin_52 (fun H locs hP hS => ?_)
        obtain ⟨m18, em18⟩ : ∃ z : dM, z = d1 m14 4 (Int32.toNatClampNeg (v13)) (-1) := ⟨_, rfl⟩
        have h := d_let em18 h
        rw [← em18] at hP
        refine lv_aload_n S.1 S.2.1 dX1_begin_53 rfl (lv_at hl 1 rfl) ?_
        refine dlgf1_3 S in1 hE hP (by decide) k0 (S.2.2.2.2 (.fieldLink RX1 22 "DrillField$Dots" "isAlternateIll" "[Z") (List.mem_of_getElem? (i := 9) rfl)) dX1_begin_54 ?_
        refine lv_iload_n S.1 S.2.1 dX1_begin_57 rfl (lv_at hl 0 rfl) ?_
        refine lv_iconst (v := 0) S.1 S.2.1 dX1_begin_58 (by decide) ?_
        obtain ⟨hi, h⟩ := d_g h
        refine dl_zast S hE hP hDr hS (by decide) dk_5 hi (by decide) dX1_begin_59 (fun H locs hP hS => ?_)
        obtain ⟨m19, em19⟩ : ∃ z : dM, z = d1 m18 5 (Int32.toNatClampNeg (v13)) 0 := ⟨_, rfl⟩
        have h := d_let em19 h
        rw [← em19] at hP
        obtain ⟨v20, ev20⟩ : ∃ z : Int32, z = v13 + 1 := ⟨_, rfl⟩
        have h := d_let ev20 h
        refine lv_iinc (v := v20) (lv' := [(2, .int v20), (0, .ref (dad g 1))]) S.1 S.2.1 dX1_begin_60 hl (k := 0) rfl (by rw [ev20]; rfl) (by decide) rfl (fun ls hl => ?_)
        refine lv_goto (tgt := 41) S.1 S.2.1 dX1_begin_63 (by decide) ?_
        obtain rfl := Option.some.inj h
        exact hCL12 _ rfl H locs ls hP hS (lv_sub hl [0, 1] rfl)
    · obtain ⟨m21, rfl⟩ : ∃ z, z = qL12 := ⟨_, rfl⟩
      have h := d_p1 h
      intro H locs ls hP hS hl
      have hP : va_P g.1 vwCl (dwr g 1 5 m21) H := hP
      have hl : lv_has ls 3 [] := hl
      obtain rfl := Option.some.inj h
      exact dl_tv S hr hlk hP hS dX1_begin_66
theorem dZ_z {i : Nat} (h : i ≠ 444) : dZ.1 i = fun _ => 0 := by funext k; simp [dZ, dZ1, h]
set_option maxRecDepth 20000 in
theorem ggX1_init_X1_begin : GoodIn wsX1_init wsX1_begin := goodIn_r _ [14, 15, 16, 17, 18, 19, 5, 7, 8, 9, 20, 21, 22, 23, 24] (by decide +kernel) (by decide +kernel)
set_option maxRecDepth 20000 in
theorem gX1_init_X1_begin : GoodIn wsX1_init (wsV RX1 25 RX1 yX1_begin wsX1_begin) := goodIn_app (goodIn_of _ (by decide +kernel)) ggX1_init_X1_begin
theorem dX1_init_0 : decode cX1_init 0 = .ok (.aload_n 0, 1) := by decide +kernel
theorem dX1_init_1 : decode cX1_init 1 = .ok (.invokespecial 3, 3) := by decide +kernel
theorem dX1_init_4 : decode cX1_init 4 = .ok (.aload_n 0, 1) := by decide +kernel
theorem dX1_init_5 : decode cX1_init 5 = .ok (.bipush 10, 2) := by decide +kernel
theorem dX1_init_7 : decode cX1_init 7 = .ok (.newarray .int, 2) := by decide +kernel
theorem dX1_init_9 : decode cX1_init 9 = .ok (.putfield 9, 3) := by decide +kernel
theorem dX1_init_12 : decode cX1_init 12 = .ok (.aload_n 0, 1) := by decide +kernel
theorem dX1_init_13 : decode cX1_init 13 = .ok (.bipush 10, 2) := by decide +kernel
theorem dX1_init_15 : decode cX1_init 15 = .ok (.newarray .boolean, 2) := by decide +kernel
theorem dX1_init_17 : decode cX1_init 17 = .ok (.putfield 15, 3) := by decide +kernel
theorem dX1_init_20 : decode cX1_init 20 = .ok (.aload_n 0, 1) := by decide +kernel
theorem dX1_init_21 : decode cX1_init 21 = .ok (.iconst 3, 1) := by decide +kernel
theorem dX1_init_22 : decode cX1_init 22 = .ok (.newarray .int, 2) := by decide +kernel
theorem dX1_init_24 : decode cX1_init 24 = .ok (.putfield 19, 3) := by decide +kernel
theorem dX1_init_27 : decode cX1_init 27 = .ok (.aload_n 0, 1) := by decide +kernel
theorem dX1_init_28 : decode cX1_init 28 = .ok (.iconst 3, 1) := by decide +kernel
theorem dX1_init_29 : decode cX1_init 29 = .ok (.newarray .boolean, 2) := by decide +kernel
theorem dX1_init_31 : decode cX1_init 31 = .ok (.putfield 22, 3) := by decide +kernel
theorem dX1_init_34 : decode cX1_init 34 = .ok (.aload_n 0, 1) := by decide +kernel
theorem dX1_init_35 : decode cX1_init 35 = .ok (.iconst 4, 1) := by decide +kernel
theorem dX1_init_36 : decode cX1_init 36 = .ok (.invokevirtual 25, 3) := by decide +kernel
theorem dX1_init_39 : decode cX1_init 39 = .ok (.return_, 1) := by decide +kernel
set_option maxHeartbeats 4000000 in
set_option maxRecDepth 100000 in
theorem kiX1 (l : Launch) (g : dG) : dCMet l g yX1_init wsX1_init 2 43 4 26 1 [.null, .null, .null, .null, .int 0] dI (1) 5 := by
  refine dcof (cc := cX1_init) (maxL := 1) (by decide) rfl rfl (by decide) ?_
  intro a p e s mth below meth cd S hr hlk hin hE hba hA H ls hP hD hS hl
  have S : CallFix p mth cd cX1_init 1 s #[Value.ref a] wsX1_init RX1 := S
  have hAb : ∀ q, dAc a s.heap.size q → g.2.2.2 ≤ q := fun q h => by rcases h with rfl | h; exact hba; exact Nat.le_trans hE.2.2.2.2.2.1 h
  obtain ⟨locs, hlocs⟩ : ∃ z : List Loc, z = [] := ⟨_, rfl⟩
  rw [← hlocs] at hS ⊢
  have hP : va_P g.1 vwCl ([(a, .inr (1, [.null, .null, .null, .null, .int 0]))] ++ dWL g (fun _ => 0) dZ []) H := hP
  have hD : va_D (dAc a s.heap.size) ([(a, .inr (1, [.null, .null, .null, .null, .int 0]))] ++ dWL g (fun _ => 0) dZ []) := hD
  have in1 : ∀ w ∈ wsX10, w ∈ wsX1_init := by decide +kernel
  refine lv_aload_n S.1 S.2.1 dX1_init_0 rfl (lv_at hl 0 rfl) ?_
  refine W.objInit S.1 S.2.1 S.2.2.2.1 (S.2.2.2.2 (.methodLink RX1 3 objectInit) (List.mem_of_getElem? (i := 1) rfl)) (S.2.2.2.2 (.instanceMethod objectInit) (List.mem_of_getElem? (i := 2) rfl)) (S.2.2.2.2 (.code objectInit ⟨#[0xb1]⟩ 1 none) (List.mem_of_getElem? (i := 3) rfl)) rfl (hl.1.trans S.2.2.1.symm) rfl dX1_init_1 (Nat.le_of_ble_eq_true rfl) (Nat.le_of_ble_eq_true rfl) ?_
  refine W.eq (g2 := F0 mth 4 ls []) rfl ?_
  refine lv_aload_n S.1 S.2.1 dX1_init_4 rfl (lv_at hl 0 rfl) ?_
  refine lv_bipush (v := 10) S.1 S.2.1 dX1_init_5 (by decide) ?_
  refine d_newI (mm := dZ) (N' := 10) (2) (by decide +kernel) (by decide +kernel) (dZ_z (by decide)) S (S.2.2.2.2 (.arrayClass .int) (List.mem_of_getElem? (i := 4) rfl)) hE.1 hP hD hS hA (by decide) (by decide) (Nat.le_of_ble_eq_true rfl) (Nat.le_of_ble_eq_true rfl) (Nat.le_of_ble_eq_true rfl) dX1_init_7 (fun a1 H hP hD hS => ?_)
  obtain ⟨hP, hD⟩ := d_mix (dAp_of (by decide +kernel)) hP hD
  refine va_putF (D := g.1) (ci := 1) (v := .ref (a1 (2))) (ty := .array .int) (C := RX1) (T := TX1) (N := 5) S.1 S.2.1 S.2.2.2.2 in1 tyX1 tyX1_ok nmX1 S.2.2.2.1 hE.1 hP hD hS 0 rfl rfl 0 (by decide) (S.2.2.2.2 (.fieldLink RX1 9 "DrillField$Dots" "legs" "[I") (List.mem_of_getElem? (i := 5) rfl)) (fun _ h => h) rfl hin rfl (by decide +kernel) rfl rfl (Nat.le_of_ble_eq_true rfl) dX1_init_9 (fun H locs hP hD hS => ?_)
  have hP : va_P g.1 vwCl ([(a, .inr (1, [.ref (a1 (2)), .null, .null, .null, .int 0]))] ++ dWL g (dmix (fun _ => 0) a1 (2) 1) dZ ([] ++ List.range' (2) 1)) H := hP
  have hD : va_D (dAc a s.heap.size) ([(a, .inr (1, [.ref (a1 (2)), .null, .null, .null, .int 0]))] ++ dWL g (dmix (fun _ => 0) a1 (2) 1) dZ ([] ++ List.range' (2) 1)) := hD
  refine lv_aload_n S.1 S.2.1 dX1_init_12 rfl (lv_at hl 0 rfl) ?_
  refine lv_bipush (v := 10) S.1 S.2.1 dX1_init_13 (by decide) ?_
  refine d_newZ (mm := dZ) (N' := 10) (3) (by decide +kernel) (by decide +kernel) (dZ_z (by decide)) S (S.2.2.2.2 (.arrayClass .boolean) (List.mem_of_getElem? (i := 6) rfl)) hE.1 hP hD hS hA (by decide) (by decide) (Nat.le_of_ble_eq_true rfl) (Nat.le_of_ble_eq_true rfl) (Nat.le_of_ble_eq_true rfl) dX1_init_15 (fun a2 H hP hD hS => ?_)
  obtain ⟨hP, hD⟩ := d_mix (dAp_of (by decide +kernel)) hP hD
  refine va_putF (D := g.1) (ci := 1) (v := .ref (a2 (3))) (ty := .array .boolean) (C := RX1) (T := TX1) (N := 5) S.1 S.2.1 S.2.2.2.2 in1 tyX1 tyX1_ok nmX1 S.2.2.2.1 hE.1 hP hD hS 0 rfl rfl 1 (by decide) (S.2.2.2.2 (.fieldLink RX1 15 "DrillField$Dots" "isIll" "[Z") (List.mem_of_getElem? (i := 7) rfl)) (fun _ h => h) rfl hin rfl (by decide +kernel) rfl rfl (Nat.le_of_ble_eq_true rfl) dX1_init_17 (fun H locs hP hD hS => ?_)
  have hP : va_P g.1 vwCl ([(a, .inr (1, [.ref (a1 (2)), .ref (a2 (3)), .null, .null, .int 0]))] ++ dWL g (dmix (dmix (fun _ => 0) a1 (2) 1) a2 (3) 1) dZ (([] ++ List.range' (2) 1) ++ List.range' (3) 1)) H := hP
  have hD : va_D (dAc a s.heap.size) ([(a, .inr (1, [.ref (a1 (2)), .ref (a2 (3)), .null, .null, .int 0]))] ++ dWL g (dmix (dmix (fun _ => 0) a1 (2) 1) a2 (3) 1) dZ (([] ++ List.range' (2) 1) ++ List.range' (3) 1)) := hD
  refine lv_aload_n S.1 S.2.1 dX1_init_20 rfl (lv_at hl 0 rfl) ?_
  refine lv_iconst (v := 3) S.1 S.2.1 dX1_init_21 (by decide) ?_
  refine d_newI (mm := dZ) (N' := 3) (4) (by decide +kernel) (by decide +kernel) (dZ_z (by decide)) S (S.2.2.2.2 (.arrayClass .int) (List.mem_of_getElem? (i := 4) rfl)) hE.1 hP hD hS hA (by decide) (by decide) (Nat.le_of_ble_eq_true rfl) (Nat.le_of_ble_eq_true rfl) (Nat.le_of_ble_eq_true rfl) dX1_init_22 (fun a3 H hP hD hS => ?_)
  obtain ⟨hP, hD⟩ := d_mix (dAp_of (by decide +kernel)) hP hD
  refine va_putF (D := g.1) (ci := 1) (v := .ref (a3 (4))) (ty := .array .int) (C := RX1) (T := TX1) (N := 5) S.1 S.2.1 S.2.2.2.2 in1 tyX1 tyX1_ok nmX1 S.2.2.2.1 hE.1 hP hD hS 0 rfl rfl 2 (by decide) (S.2.2.2.2 (.fieldLink RX1 19 "DrillField$Dots" "known" "[I") (List.mem_of_getElem? (i := 8) rfl)) (fun _ h => h) rfl hin rfl (by decide +kernel) rfl rfl (Nat.le_of_ble_eq_true rfl) dX1_init_24 (fun H locs hP hD hS => ?_)
  have hP : va_P g.1 vwCl ([(a, .inr (1, [.ref (a1 (2)), .ref (a2 (3)), .ref (a3 (4)), .null, .int 0]))] ++ dWL g (dmix (dmix (dmix (fun _ => 0) a1 (2) 1) a2 (3) 1) a3 (4) 1) dZ ((([] ++ List.range' (2) 1) ++ List.range' (3) 1) ++ List.range' (4) 1)) H := hP
  have hD : va_D (dAc a s.heap.size) ([(a, .inr (1, [.ref (a1 (2)), .ref (a2 (3)), .ref (a3 (4)), .null, .int 0]))] ++ dWL g (dmix (dmix (dmix (fun _ => 0) a1 (2) 1) a2 (3) 1) a3 (4) 1) dZ ((([] ++ List.range' (2) 1) ++ List.range' (3) 1) ++ List.range' (4) 1)) := hD
  refine lv_aload_n S.1 S.2.1 dX1_init_27 rfl (lv_at hl 0 rfl) ?_
  refine lv_iconst (v := 3) S.1 S.2.1 dX1_init_28 (by decide) ?_
  refine d_newZ (mm := dZ) (N' := 3) (5) (by decide +kernel) (by decide +kernel) (dZ_z (by decide)) S (S.2.2.2.2 (.arrayClass .boolean) (List.mem_of_getElem? (i := 6) rfl)) hE.1 hP hD hS hA (by decide) (by decide) (Nat.le_of_ble_eq_true rfl) (Nat.le_of_ble_eq_true rfl) (Nat.le_of_ble_eq_true rfl) dX1_init_29 (fun a4 H hP hD hS => ?_)
  obtain ⟨hP, hD⟩ := d_mix (dAp_of (by decide +kernel)) hP hD
  refine va_putF (D := g.1) (ci := 1) (v := .ref (a4 (5))) (ty := .array .boolean) (C := RX1) (T := TX1) (N := 5) S.1 S.2.1 S.2.2.2.2 in1 tyX1 tyX1_ok nmX1 S.2.2.2.1 hE.1 hP hD hS 0 rfl rfl 3 (by decide) (S.2.2.2.2 (.fieldLink RX1 22 "DrillField$Dots" "isAlternateIll" "[Z") (List.mem_of_getElem? (i := 9) rfl)) (fun _ h => h) rfl hin rfl (by decide +kernel) rfl rfl (Nat.le_of_ble_eq_true rfl) dX1_init_31 (fun H locs hP hD hS => ?_)
  have hP : va_P g.1 vwCl ([(a, .inr (1, [.ref (a1 (2)), .ref (a2 (3)), .ref (a3 (4)), .ref (a4 (5)), .int 0]))] ++ dWL g (dmix (dmix (dmix (dmix (fun _ => 0) a1 (2) 1) a2 (3) 1) a3 (4) 1) a4 (5) 1) dZ (((([] ++ List.range' (2) 1) ++ List.range' (3) 1) ++ List.range' (4) 1) ++ List.range' (5) 1)) H := hP
  have hD : va_D (dAc a s.heap.size) ([(a, .inr (1, [.ref (a1 (2)), .ref (a2 (3)), .ref (a3 (4)), .ref (a4 (5)), .int 0]))] ++ dWL g (dmix (dmix (dmix (dmix (fun _ => 0) a1 (2) 1) a2 (3) 1) a3 (4) 1) a4 (5) 1) dZ (((([] ++ List.range' (2) 1) ++ List.range' (3) 1) ++ List.range' (4) 1) ++ List.range' (5) 1)) := hD
  refine lv_aload_n S.1 S.2.1 dX1_init_34 rfl (lv_at hl 0 rfl) ?_
  refine lv_iconst (v := 4) S.1 S.2.1 dX1_init_35 (by decide) ?_
  have hrec := va_recv hE.1 hP (ci := 1) (q0 := 0) rfl rfl
  have ew : ([(a, .inr (1, [.ref (a1 (2)), .ref (a2 (3)), .ref (a3 (4)), .ref (a4 (5)), .int 0]))] ++ dWL g (dmix (dmix (dmix (dmix (fun _ => 0) a1 (2) 1) a2 (3) 1) a3 (4) 1) a4 (5) 1) dZ (((([] ++ List.range' (2) 1) ++ List.range' (3) 1) ++ List.range' (4) 1) ++ List.range' (5) 1)) = dWL g (fun j => if j = 1 then a else (dmix (dmix (dmix (dmix (fun _ => 0) a1 (2) 1) a2 (3) 1) a3 (4) 1) a4 (5) 1) j) dZ (List.range' 1 5) := by
    rw [show (List.range' 1 5) = [1] ++ (((([] ++ List.range' (2) 1) ++ List.range' (3) 1) ++ List.range' (4) 1) ++ List.range' (5) 1) by decide]
    show (_ :: _) = (_ :: _)
    refine List.cons_eq_cons.mpr ⟨?_, ?_⟩
    · refine Prod.ext (by simp) ?_
      show _ = dct (dga g _) dZ (1)
      rw [dck2 (show dK 1 = 2 by decide +kernel)]
      simp [dmix, dZ, dZ1]
    · exact dWL_no (xs := [1]) (by decide +kernel) (fun j hj => by rw [if_neg (by simpa using hj)])
  rw [ew] at hP hD
  have hP : va_P g.1 vwCl (dwr (dga g (fun j => if j = 1 then a else (dmix (dmix (dmix (dmix (fun _ => 0) a1 (2) 1) a2 (3) 1) a3 (4) 1) a4 (5) 1) j)) 1 5 dZ) H := hP
  have hDr : ∀ m, va_D (dAc a s.heap.size) (dwr (dga g (fun j => if j = 1 then a else (dmix (dmix (dmix (dmix (fun _ => 0) a1 (2) 1) a2 (3) 1) a3 (4) 1) a4 (5) 1) j)) 1 5 m) := fun m => dwr_D (g := (dga g (fun j => if j = 1 then a else (dmix (dmix (dmix (dmix (fun _ => 0) a1 (2) 1) a2 (3) 1) a3 (4) 1) a4 (5) 1) j))) (m := dZ) hD
  have ea : dad (dga g (fun j => if j = 1 then a else (dmix (dmix (dmix (dmix (fun _ => 0) a1 (2) 1) a2 (3) 1) a3 (4) 1) a4 (5) 1) j)) 1 = a := by simp [dad, dga]
  refine W.eq (g2 := F0 mth 36 ls [.int 4, .ref (dad (dga g (fun j => if j = 1 then a else (dmix (dmix (dmix (dmix (fun _ => 0) a1 (2) 1) a2 (3) 1) a3 (4) 1) a4 (5) 1) j)) 1)]) (by rw [ea]) ?_
  refine va_callv (va_runV (As := [.int 4]) (rest := []) (b := dad (dga g (fun j => if j = 1 then a else (dmix (dmix (dmix (dmix (fun _ => 0) a1 (2) 1) a2 (3) 1) a3 (4) 1) a4 (5) 1) j)) 1) S (klX1_begin l (dga g (fun j => if j = 1 then a else (dmix (dmix (dmix (dmix (fun _ => 0) a1 (2) 1) a2 (3) 1) a3 (4) 1) a4 (5) 1) j)) (fX1_begin_eq dZ 4) (dAc a s.heap.size) hDr) (cwV 1 S.2.2.2.2 gX1_init_X1_begin rfl rfl rfl ynX1_begin ⟨(Nat.le_of_ble_eq_true rfl), (Nat.le_of_ble_eq_true rfl)⟩) ⟨dlBlind, by rw [ea]; exact hrec, fun U hU hW => ⟨rfl, va_K.moved hW.alike hE.1, by rw [hU]; exact hP⟩⟩ rfl rfl hl.1 rfl (lv_room (Nat.le_of_ble_eq_true rfl)) dX1_init_36 ⟨(Nat.le_of_ble_eq_true rfl), (Nat.le_of_ble_eq_true rfl)⟩) hS (fun _ _ h => h) (fun _ h => h) (fun u t H1 locs1 ht hvm hw hB hz hk hS => ?_)
  subst hw
  rw [ht] at hB
  refine d_tc (ws := dwr (dga g (fun j => if j = 1 then a else (dmix (dmix (dmix (dmix (fun _ => 0) a1 (2) 1) a2 (3) 1) a3 (4) 1) a4 (5) 1) j)) 1 5 (dBegin dZ (if (10 : Int32) < 4 then 10 else 4))) (ad := (fun j => if j = 1 then a else (dmix (dmix (dmix (dmix (fun _ => 0) a1 (2) 1) a2 (3) 1) a3 (4) 1) a4 (5) 1) j)) (ids := (List.range' 1 5)) S hr hlk ?_ (fun i h1 h2 => List.mem_range'_1.mpr ⟨h1, h2⟩) (if_pos rfl) (by decide) hB (hDr _) hS (Nat.le_of_ble_eq_true rfl) (Nat.le_of_ble_eq_true rfl) dX1_init_39
  · show dWL g (fun j => if j = 1 then a else (dmix (dmix (dmix (dmix (fun _ => 0) a1 (2) 1) a2 (3) 1) a3 (4) 1) a4 (5) 1) j) _ _ = dWL g (fun j => if j = 1 then a else (dmix (dmix (dmix (dmix (fun _ => 0) a1 (2) 1) a2 (3) 1) a3 (4) 1) a4 (5) 1) j) dI _
    exact dWL_cong (fun i hi => by have hi := List.mem_range'_1.mp hi; exact ⟨rfl, fun _ _ => rfl, (by rw [show (if (10 : Int32) < 4 then (10 : Int32) else 4) = 4 by decide]; exact dI_dots hi), rfl⟩)
set_option maxRecDepth 20000 in
theorem ggX11_init_X1_init : GoodIn wsX11_init wsX1_init := goodIn_r _ [38, 39, 2, 3, 40, 41, 42, 43, 44, 45, 46, 47, 48, 6, 49, 50, 51, 52, 53, 54, 143, 144, 145, 146, 147] (by decide +kernel) (by decide +kernel)
set_option maxRecDepth 20000 in
theorem gX11_init_X1_init : GoodIn wsX11_init (wsX1_init) := ggX11_init_X1_init
set_option maxRecDepth 20000 in
theorem ggX11_init_X7_init : GoodIn wsX11_init wsX7_init := goodIn_r _ [57, 58, 2, 3, 59, 60, 25, 26, 61, 62, 63, 64, 40, 65, 66, 156, 157, 158, 171, 172] (by decide +kernel) (by decide +kernel)
set_option maxRecDepth 20000 in
theorem gX11_init_X7_init : GoodIn wsX11_init (wsX7_init) := ggX11_init_X7_init
set_option maxRecDepth 20000 in
theorem ggX11_init_X8_init : GoodIn wsX11_init wsX8_init := goodIn_r _ [69, 70, 2, 3, 71, 72, 73, 74, 75, 76, 77, 78, 79, 80, 81, 82, 83, 25, 26, 84, 85, 40, 86, 87, 88, 62, 63, 64, 65, 66, 89, 90, 91, 92, 93, 94, 95, 96, 97, 98, 99, 42, 100, 159, 160, 161, 162, 180, 181, 182, 183, 184, 185, 186, 187, 188, 189, 190, 191, 192, 193, 194, 171, 172] (by decide +kernel) (by decide +kernel)
set_option maxRecDepth 20000 in
theorem gX11_init_X8_init : GoodIn wsX11_init (wsX8_init) := ggX11_init_X8_init
set_option maxRecDepth 20000 in
theorem ggX11_init_X10_init : GoodIn wsX11_init wsX10_init := goodIn_r _ [103, 104, 2, 3, 105, 106, 25, 26, 107, 108, 109, 110, 111, 62, 63, 64, 40, 65, 66, 112, 113, 114, 115, 116, 117, 118, 163, 164, 165, 166, 171, 172, 195, 196, 197, 198] (by decide +kernel) (by decide +kernel)
set_option maxRecDepth 20000 in
theorem gX11_init_X10_init : GoodIn wsX11_init (wsX10_init) := ggX11_init_X10_init
set_option maxRecDepth 20000 in
theorem ggX11_init_X6_init : GoodIn wsX11_init wsX6_init := goodIn_r _ [120, 121, 2, 3, 122, 25, 26, 123, 124, 125, 40, 126, 127, 109, 110, 128, 62, 63, 64, 65, 66, 112, 113, 114, 115, 116, 117, 118, 171, 172, 167, 168, 169, 170, 195, 196, 197, 198] (by decide +kernel) (by decide +kernel)
set_option maxRecDepth 20000 in
theorem gX11_init_X6_init_n39 : GoodIn wsX11_init (wsX6_init) := ggX11_init_X6_init
set_option maxRecDepth 20000 in
theorem ggX11_init_X9_init : GoodIn wsX11_init wsX9_init := goodIn_r _ [63, 64, 2, 3, 40, 65, 66, 171, 172] (by decide +kernel) (by decide +kernel)
set_option maxRecDepth 20000 in
theorem gX11_init_X9_init_n46 : GoodIn wsX11_init (wsX9_init) := ggX11_init_X9_init
set_option maxRecDepth 20000 in
theorem ggX11_init_X3_init : GoodIn wsX11_init wsX3_init := goodIn_r _ [131, 132, 2, 3, 133, 134, 25, 26, 135, 62, 63, 64, 40, 65, 66, 173, 174, 175, 171, 172] (by decide +kernel) (by decide +kernel)
set_option maxRecDepth 20000 in
theorem gX11_init_X3_init : GoodIn wsX11_init (wsX3_init) := ggX11_init_X3_init
set_option maxRecDepth 20000 in
theorem ggX11_init_X0_init : GoodIn wsX11_init wsX0_init := goodIn_r _ [137, 138, 2, 3, 139, 40, 140, 141, 142, 176, 177, 178, 179] (by decide +kernel) (by decide +kernel)
set_option maxRecDepth 20000 in
theorem gX11_init_X0_init_n60 : GoodIn wsX11_init (wsX0_init) := ggX11_init_X0_init
theorem dX11_init_0 : decode cX11_init 0 = .ok (.aload_n 0, 1) := by decide +kernel
theorem dX11_init_1 : decode cX11_init 1 = .ok (.invokespecial 1, 3) := by decide +kernel
theorem dX11_init_4 : decode cX11_init 4 = .ok (.aload_n 0, 1) := by decide +kernel
theorem dX11_init_5 : decode cX11_init 5 = .ok (.new 7, 3) := by decide +kernel
theorem dX11_init_8 : decode cX11_init 8 = .ok (.dup, 1) := by decide +kernel
theorem dX11_init_9 : decode cX11_init 9 = .ok (.invokespecial 9, 3) := by decide +kernel
theorem dX11_init_12 : decode cX11_init 12 = .ok (.putfield 10, 3) := by decide +kernel
theorem dX11_init_15 : decode cX11_init 15 = .ok (.aload_n 0, 1) := by decide +kernel
theorem dX11_init_16 : decode cX11_init 16 = .ok (.new 16, 3) := by decide +kernel
theorem dX11_init_19 : decode cX11_init 19 = .ok (.dup, 1) := by decide +kernel
theorem dX11_init_20 : decode cX11_init 20 = .ok (.invokespecial 18, 3) := by decide +kernel
theorem dX11_init_23 : decode cX11_init 23 = .ok (.putfield 19, 3) := by decide +kernel
theorem dX11_init_26 : decode cX11_init 26 = .ok (.aload_n 0, 1) := by decide +kernel
theorem dX11_init_27 : decode cX11_init 27 = .ok (.new 23, 3) := by decide +kernel
theorem dX11_init_30 : decode cX11_init 30 = .ok (.dup, 1) := by decide +kernel
theorem dX11_init_31 : decode cX11_init 31 = .ok (.invokespecial 25, 3) := by decide +kernel
theorem dX11_init_34 : decode cX11_init 34 = .ok (.putfield 26, 3) := by decide +kernel
theorem dX11_init_37 : decode cX11_init 37 = .ok (.aload_n 0, 1) := by decide +kernel
theorem dX11_init_38 : decode cX11_init 38 = .ok (.new 30, 3) := by decide +kernel
theorem dX11_init_41 : decode cX11_init 41 = .ok (.dup, 1) := by decide +kernel
theorem dX11_init_42 : decode cX11_init 42 = .ok (.invokespecial 32, 3) := by decide +kernel
theorem dX11_init_45 : decode cX11_init 45 = .ok (.putfield 33, 3) := by decide +kernel
theorem dX11_init_48 : decode cX11_init 48 = .ok (.aload_n 0, 1) := by decide +kernel
theorem dX11_init_49 : decode cX11_init 49 = .ok (.new 37, 3) := by decide +kernel
theorem dX11_init_52 : decode cX11_init 52 = .ok (.dup, 1) := by decide +kernel
theorem dX11_init_53 : decode cX11_init 53 = .ok (.invokespecial 39, 3) := by decide +kernel
theorem dX11_init_56 : decode cX11_init 56 = .ok (.putfield 40, 3) := by decide +kernel
theorem dX11_init_59 : decode cX11_init 59 = .ok (.aload_n 0, 1) := by decide +kernel
theorem dX11_init_60 : decode cX11_init 60 = .ok (.new 44, 3) := by decide +kernel
theorem dX11_init_63 : decode cX11_init 63 = .ok (.dup, 1) := by decide +kernel
theorem dX11_init_64 : decode cX11_init 64 = .ok (.invokespecial 46, 3) := by decide +kernel
theorem dX11_init_67 : decode cX11_init 67 = .ok (.putfield 47, 3) := by decide +kernel
theorem dX11_init_70 : decode cX11_init 70 = .ok (.aload_n 0, 1) := by decide +kernel
theorem dX11_init_71 : decode cX11_init 71 = .ok (.new 51, 3) := by decide +kernel
theorem dX11_init_74 : decode cX11_init 74 = .ok (.dup, 1) := by decide +kernel
theorem dX11_init_75 : decode cX11_init 75 = .ok (.invokespecial 53, 3) := by decide +kernel
theorem dX11_init_78 : decode cX11_init 78 = .ok (.putfield 54, 3) := by decide +kernel
theorem dX11_init_81 : decode cX11_init 81 = .ok (.aload_n 0, 1) := by decide +kernel
theorem dX11_init_82 : decode cX11_init 82 = .ok (.new 58, 3) := by decide +kernel
theorem dX11_init_85 : decode cX11_init 85 = .ok (.dup, 1) := by decide +kernel
theorem dX11_init_86 : decode cX11_init 86 = .ok (.invokespecial 60, 3) := by decide +kernel
theorem dX11_init_89 : decode cX11_init 89 = .ok (.putfield 61, 3) := by decide +kernel
theorem dX11_init_92 : decode cX11_init 92 = .ok (.return_, 1) := by decide +kernel
set_option maxHeartbeats 4000000 in
set_option maxRecDepth 100000 in
theorem kiX11 (l : Launch) (g : dG) : dCMet l g yX11_init wsX11_init 4 81 443 3369 11 [.null, .null, .null, .null, .null, .null, .null, .null] dI (0) 444 := by
  refine dcof (cc := cX11_init) (maxL := 1) (by decide) rfl rfl (by decide) ?_
  intro a p e s mth below meth cd S hr hlk hin hE hba hA H ls hP hD hS hl
  have S : CallFix p mth cd cX11_init 1 s #[Value.ref a] wsX11_init RX11 := S
  have hAb : ∀ q, dAc a s.heap.size q → g.2.2.2 ≤ q := fun q h => by rcases h with rfl | h; exact hba; exact Nat.le_trans hE.2.2.2.2.2.1 h
  obtain ⟨locs, hlocs⟩ : ∃ z : List Loc, z = [] := ⟨_, rfl⟩
  rw [← hlocs] at hS ⊢
  have hP : va_P g.1 vwCl ([(a, .inr (11, [.null, .null, .null, .null, .null, .null, .null, .null]))] ++ dWL g (fun _ => 0) dI []) H := hP
  have hD : va_D (dAc a s.heap.size) ([(a, .inr (11, [.null, .null, .null, .null, .null, .null, .null, .null]))] ++ dWL g (fun _ => 0) dI []) := hD
  have in0 : ∀ w ∈ wsX00, w ∈ wsX11_init := by decide +kernel
  have in1 : ∀ w ∈ wsX10, w ∈ wsX11_init := by decide +kernel
  have in3 : ∀ w ∈ wsX30, w ∈ wsX11_init := by decide +kernel
  have in6 : ∀ w ∈ wsX60, w ∈ wsX11_init := by decide +kernel
  have in7 : ∀ w ∈ wsX70, w ∈ wsX11_init := by decide +kernel
  have in8 : ∀ w ∈ wsX80, w ∈ wsX11_init := by decide +kernel
  have in9 : ∀ w ∈ wsX90, w ∈ wsX11_init := by decide +kernel
  have in10 : ∀ w ∈ wsX100, w ∈ wsX11_init := by decide +kernel
  have in11 : ∀ w ∈ wsX110, w ∈ wsX11_init := by decide +kernel
  refine lv_aload_n S.1 S.2.1 dX11_init_0 rfl (lv_at hl 0 rfl) ?_
  refine W.objInit S.1 S.2.1 S.2.2.2.1 (S.2.2.2.2 (.methodLink RX11 1 objectInit) (List.mem_of_getElem? (i := 1) rfl)) (S.2.2.2.2 (.instanceMethod objectInit) (List.mem_of_getElem? (i := 2) rfl)) (S.2.2.2.2 (.code objectInit ⟨#[0xb1]⟩ 1 none) (List.mem_of_getElem? (i := 3) rfl)) rfl (hl.1.trans S.2.2.1.symm) rfl dX11_init_1 (Nat.le_of_ble_eq_true rfl) (Nat.le_of_ble_eq_true rfl) ?_
  refine W.eq (g2 := F0 mth 4 ls []) rfl ?_
  refine lv_aload_n S.1 S.2.1 dX11_init_4 rfl (lv_at hl 0 rfl) ?_
  refine d_newo (C := RX1) (T := TX1) (N := 5) (ci := 1) (fs := [.null, .null, .null, .null, .int 0]) (k1 := 4) (k2 := 26) (1) 5 tyX1 tyX1_ok S in1 (S.2.2.2.2 (.classLink RX11 7 RX1) (List.mem_of_getElem? (i := 4) rfl)) (S.2.2.2.2 (.instantiable RX1 5) (List.mem_of_getElem? (i := 5) rfl)) (S.2.2.2.2 (.initialized RX1) (List.mem_of_getElem? (i := 6) rfl)) hE hAb hP hD hS hA rfl hfsX1 (fun q9 H9 locs9 c9 s9 hp hf => va_runI (As := []) (rest := [.ref q9, .ref a]) S (kiX1 l g q9 _) (cwI 0 S.2.2.2.2 gX11_init_X1_init rfl rfl rfl (S.2.2.2.2 (.initialized RX1) (List.mem_of_getElem? (i := 6) rfl)) (S.2.2.2.2 (.methodLink RX11 9 yX1_init) (List.mem_of_getElem? (i := 36) rfl)) (S.2.2.2.2 (.instanceMethod yX1_init) (List.mem_of_getElem? (i := 37) rfl)) rfl yniX1 ⟨(Nat.le_of_ble_eq_true rfl), (Nat.le_of_ble_eq_true rfl)⟩) hp rfl rfl hl.1 rfl (lv_room (Nat.le_of_ble_eq_true rfl)) dX11_init_9 hf) (Nat.le_of_ble_eq_true rfl) (Nat.le_of_ble_eq_true rfl) dX11_init_5 dX11_init_8 (fun a1 H locs hP hD hS => ?_)
  obtain ⟨hP, hD⟩ := d_mix (dAp_of (by decide +kernel)) hP hD
  refine va_putF (D := g.1) (ci := 11) (v := .ref (a1 (1))) (ty := .object "DrillField$Dots") (C := RX11) (T := TX11) (N := 8) S.1 S.2.1 S.2.2.2.2 in11 tyX11 tyX11_ok nmX11 S.2.2.2.1 hE.1 hP hD hS 0 rfl rfl 0 (by decide) (S.2.2.2.2 (.fieldLink RX11 10 "DrillField" "dots" "LDrillField$Dots;") (List.mem_of_getElem? (i := 7) rfl)) (fun _ h => h) rfl hin rfl (by decide +kernel) rfl rfl (Nat.le_of_ble_eq_true rfl) dX11_init_12 (fun H locs hP hD hS => ?_)
  have hP : va_P g.1 vwCl ([(a, .inr (11, [.ref (a1 (1)), .null, .null, .null, .null, .null, .null, .null]))] ++ dWL g (dmix (fun _ => 0) a1 (1) 5) dI ([] ++ List.range' (1) 5)) H := hP
  have hD : va_D (dAc a s.heap.size) ([(a, .inr (11, [.ref (a1 (1)), .null, .null, .null, .null, .null, .null, .null]))] ++ dWL g (dmix (fun _ => 0) a1 (1) 5) dI ([] ++ List.range' (1) 5)) := hD
  refine lv_aload_n S.1 S.2.1 dX11_init_15 rfl (lv_at hl 0 rfl) ?_
  refine d_newo (C := RX7) (T := TX7) (N := 3) (ci := 7) (fs := [.null, .null, .int 0]) (k1 := 40) (k2 := 298) (6) 41 tyX7 tyX7_ok S in7 (S.2.2.2.2 (.classLink RX11 16 RX7) (List.mem_of_getElem? (i := 8) rfl)) (S.2.2.2.2 (.instantiable RX7 3) (List.mem_of_getElem? (i := 9) rfl)) (S.2.2.2.2 (.initialized RX7) (List.mem_of_getElem? (i := 10) rfl)) hE hAb hP hD hS hA rfl hfsX7 (fun q9 H9 locs9 c9 s9 hp hf => va_runI (As := []) (rest := [.ref q9, .ref a]) S (kiX7 l g q9 _) (cwI 0 S.2.2.2.2 gX11_init_X7_init rfl rfl rfl (S.2.2.2.2 (.initialized RX7) (List.mem_of_getElem? (i := 10) rfl)) (S.2.2.2.2 (.methodLink RX11 18 yX7_init) (List.mem_of_getElem? (i := 55) rfl)) (S.2.2.2.2 (.instanceMethod yX7_init) (List.mem_of_getElem? (i := 56) rfl)) rfl yniX7 ⟨(Nat.le_of_ble_eq_true rfl), (Nat.le_of_ble_eq_true rfl)⟩) hp rfl rfl hl.1 rfl (lv_room (Nat.le_of_ble_eq_true rfl)) dX11_init_20 hf) (Nat.le_of_ble_eq_true rfl) (Nat.le_of_ble_eq_true rfl) dX11_init_16 dX11_init_19 (fun a2 H locs hP hD hS => ?_)
  obtain ⟨hP, hD⟩ := d_mix (dAp_of (by decide +kernel)) hP hD
  refine va_putF (D := g.1) (ci := 11) (v := .ref (a2 (6))) (ty := .object "DrillField$Sets") (C := RX11) (T := TX11) (N := 8) S.1 S.2.1 S.2.2.2.2 in11 tyX11 tyX11_ok nmX11 S.2.2.2.1 hE.1 hP hD hS 0 rfl rfl 1 (by decide) (S.2.2.2.2 (.fieldLink RX11 19 "DrillField" "sets" "LDrillField$Sets;") (List.mem_of_getElem? (i := 11) rfl)) (fun _ h => h) rfl hin rfl (by decide +kernel) rfl rfl (Nat.le_of_ble_eq_true rfl) dX11_init_23 (fun H locs hP hD hS => ?_)
  have hP : va_P g.1 vwCl ([(a, .inr (11, [.ref (a1 (1)), .ref (a2 (6)), .null, .null, .null, .null, .null, .null]))] ++ dWL g (dmix (dmix (fun _ => 0) a1 (1) 5) a2 (6) 41) dI (([] ++ List.range' (1) 5) ++ List.range' (6) 41)) H := hP
  have hD : va_D (dAc a s.heap.size) ([(a, .inr (11, [.ref (a1 (1)), .ref (a2 (6)), .null, .null, .null, .null, .null, .null]))] ++ dWL g (dmix (dmix (fun _ => 0) a1 (1) 5) a2 (6) 41) dI (([] ++ List.range' (1) 5) ++ List.range' (6) 41)) := hD
  refine lv_aload_n S.1 S.2.1 dX11_init_26 rfl (lv_at hl 0 rfl) ?_
  refine d_newo (C := RX8) (T := TX8) (N := 4) (ci := 8) (fs := [.null, .null, .null, .int 0]) (k1 := 123) (k2 := 983) (47) 124 tyX8 tyX8_ok S in8 (S.2.2.2.2 (.classLink RX11 23 RX8) (List.mem_of_getElem? (i := 12) rfl)) (S.2.2.2.2 (.instantiable RX8 4) (List.mem_of_getElem? (i := 13) rfl)) (S.2.2.2.2 (.initialized RX8) (List.mem_of_getElem? (i := 14) rfl)) hE hAb hP hD hS hA rfl hfsX8 (fun q9 H9 locs9 c9 s9 hp hf => va_runI (As := []) (rest := [.ref q9, .ref a]) S (kiX8 l g q9 _) (cwI 0 S.2.2.2.2 gX11_init_X8_init rfl rfl rfl (S.2.2.2.2 (.initialized RX8) (List.mem_of_getElem? (i := 14) rfl)) (S.2.2.2.2 (.methodLink RX11 25 yX8_init) (List.mem_of_getElem? (i := 67) rfl)) (S.2.2.2.2 (.instanceMethod yX8_init) (List.mem_of_getElem? (i := 68) rfl)) rfl yniX8 ⟨(Nat.le_of_ble_eq_true rfl), (Nat.le_of_ble_eq_true rfl)⟩) hp rfl rfl hl.1 rfl (lv_room (Nat.le_of_ble_eq_true rfl)) dX11_init_31 hf) (Nat.le_of_ble_eq_true rfl) (Nat.le_of_ble_eq_true rfl) dX11_init_27 dX11_init_30 (fun a3 H locs hP hD hS => ?_)
  obtain ⟨hP, hD⟩ := d_mix (dAp_of (by decide +kernel)) hP hD
  refine va_putF (D := g.1) (ci := 11) (v := .ref (a3 (47))) (ty := .object "DrillField$Show") (C := RX11) (T := TX11) (N := 8) S.1 S.2.1 S.2.2.2.2 in11 tyX11 tyX11_ok nmX11 S.2.2.2.1 hE.1 hP hD hS 0 rfl rfl 2 (by decide) (S.2.2.2.2 (.fieldLink RX11 26 "DrillField" "show" "LDrillField$Show;") (List.mem_of_getElem? (i := 15) rfl)) (fun _ h => h) rfl hin rfl (by decide +kernel) rfl rfl (Nat.le_of_ble_eq_true rfl) dX11_init_34 (fun H locs hP hD hS => ?_)
  have hP : va_P g.1 vwCl ([(a, .inr (11, [.ref (a1 (1)), .ref (a2 (6)), .ref (a3 (47)), .null, .null, .null, .null, .null]))] ++ dWL g (dmix (dmix (dmix (fun _ => 0) a1 (1) 5) a2 (6) 41) a3 (47) 124) dI ((([] ++ List.range' (1) 5) ++ List.range' (6) 41) ++ List.range' (47) 124)) H := hP
  have hD : va_D (dAc a s.heap.size) ([(a, .inr (11, [.ref (a1 (1)), .ref (a2 (6)), .ref (a3 (47)), .null, .null, .null, .null, .null]))] ++ dWL g (dmix (dmix (dmix (fun _ => 0) a1 (1) 5) a2 (6) 41) a3 (47) 124) dI ((([] ++ List.range' (1) 5) ++ List.range' (6) 41) ++ List.range' (47) 124)) := hD
  refine lv_aload_n S.1 S.2.1 dX11_init_37 rfl (lv_at hl 0 rfl) ?_
  refine d_newo (C := RX10) (T := TX10) (N := 4) (ci := 10) (fs := [.null, .null, .null, .int 0]) (k1 := 200) (k2 := 1521) (171) 201 tyX10 tyX10_ok S in10 (S.2.2.2.2 (.classLink RX11 30 RX10) (List.mem_of_getElem? (i := 16) rfl)) (S.2.2.2.2 (.instantiable RX10 4) (List.mem_of_getElem? (i := 17) rfl)) (S.2.2.2.2 (.initialized RX10) (List.mem_of_getElem? (i := 18) rfl)) hE hAb hP hD hS hA rfl hfsX10 (fun q9 H9 locs9 c9 s9 hp hf => va_runI (As := []) (rest := [.ref q9, .ref a]) S (kiX10 l g q9 _) (cwI 0 S.2.2.2.2 gX11_init_X10_init rfl rfl rfl (S.2.2.2.2 (.initialized RX10) (List.mem_of_getElem? (i := 18) rfl)) (S.2.2.2.2 (.methodLink RX11 32 yX10_init) (List.mem_of_getElem? (i := 101) rfl)) (S.2.2.2.2 (.instanceMethod yX10_init) (List.mem_of_getElem? (i := 102) rfl)) rfl yniX10 ⟨(Nat.le_of_ble_eq_true rfl), (Nat.le_of_ble_eq_true rfl)⟩) hp rfl rfl hl.1 rfl (lv_room (Nat.le_of_ble_eq_true rfl)) dX11_init_42 hf) (Nat.le_of_ble_eq_true rfl) (Nat.le_of_ble_eq_true rfl) dX11_init_38 dX11_init_41 (fun a4 H locs hP hD hS => ?_)
  obtain ⟨hP, hD⟩ := d_mix (dAp_of (by decide +kernel)) hP hD
  refine va_putF (D := g.1) (ci := 11) (v := .ref (a4 (171))) (ty := .object "DrillField$Watch") (C := RX11) (T := TX11) (N := 8) S.1 S.2.1 S.2.2.2.2 in11 tyX11 tyX11_ok nmX11 S.2.2.2.1 hE.1 hP hD hS 0 rfl rfl 3 (by decide) (S.2.2.2.2 (.fieldLink RX11 33 "DrillField" "watch" "LDrillField$Watch;") (List.mem_of_getElem? (i := 19) rfl)) (fun _ h => h) rfl hin rfl (by decide +kernel) rfl rfl (Nat.le_of_ble_eq_true rfl) dX11_init_45 (fun H locs hP hD hS => ?_)
  have hP : va_P g.1 vwCl ([(a, .inr (11, [.ref (a1 (1)), .ref (a2 (6)), .ref (a3 (47)), .ref (a4 (171)), .null, .null, .null, .null]))] ++ dWL g (dmix (dmix (dmix (dmix (fun _ => 0) a1 (1) 5) a2 (6) 41) a3 (47) 124) a4 (171) 201) dI (((([] ++ List.range' (1) 5) ++ List.range' (6) 41) ++ List.range' (47) 124) ++ List.range' (171) 201)) H := hP
  have hD : va_D (dAc a s.heap.size) ([(a, .inr (11, [.ref (a1 (1)), .ref (a2 (6)), .ref (a3 (47)), .ref (a4 (171)), .null, .null, .null, .null]))] ++ dWL g (dmix (dmix (dmix (dmix (fun _ => 0) a1 (1) 5) a2 (6) 41) a3 (47) 124) a4 (171) 201) dI (((([] ++ List.range' (1) 5) ++ List.range' (6) 41) ++ List.range' (47) 124) ++ List.range' (171) 201)) := hD
  refine lv_aload_n S.1 S.2.1 dX11_init_48 rfl (lv_at hl 0 rfl) ?_
  refine d_newo (C := RX6) (T := TX6) (N := 4) (ci := 6) (fs := [.null, .null, .null, .null]) (k1 := 18) (k2 := 158) (372) 19 tyX6 tyX6_ok S in6 (S.2.2.2.2 (.classLink RX11 37 RX6) (List.mem_of_getElem? (i := 20) rfl)) (S.2.2.2.2 (.instantiable RX6 4) (List.mem_of_getElem? (i := 21) rfl)) (S.2.2.2.2 (.initialized RX6) (List.mem_of_getElem? (i := 22) rfl)) hE hAb hP hD hS hA rfl hfsX6 (fun q9 H9 locs9 c9 s9 hp hf => va_runIN (As := []) (rest := [.ref q9, .ref a]) S (kiX6 l g q9 _) ⟨va_cnB 0 S.2.2.2.2 gX11_init_X6_init_n39 rfl rfl rfl (dnqi_RX11_39 hE) (S.2.2.2.2 (.initialized RX6) (List.mem_of_getElem? (i := 22) rfl)) yniX6 ⟨(Nat.le_of_ble_eq_true rfl), (Nat.le_of_ble_eq_true rfl)⟩, rfl, S.2.2.2.2 (.instanceMethod yX6_init) (List.mem_of_getElem? (i := 119) rfl)⟩ hp rfl rfl hl.1 rfl (lv_room (Nat.le_of_ble_eq_true rfl)) dX11_init_53 hf) (Nat.le_of_ble_eq_true rfl) (Nat.le_of_ble_eq_true rfl) dX11_init_49 dX11_init_52 (fun a5 H locs hP hD hS => ?_)
  obtain ⟨hP, hD⟩ := d_mix (dAp_of (by decide +kernel)) hP hD
  refine va_putF (D := g.1) (ci := 11) (v := .ref (a5 (372))) (ty := .object "DrillField$Recount") (C := RX11) (T := TX11) (N := 8) S.1 S.2.1 S.2.2.2.2 in11 tyX11 tyX11_ok nmX11 S.2.2.2.1 hE.1 hP hD hS 0 rfl rfl 4 (by decide) (S.2.2.2.2 (.fieldLink RX11 40 "DrillField" "recount" "LDrillField$Recount;") (List.mem_of_getElem? (i := 23) rfl)) (fun _ h => h) rfl hin rfl (by decide +kernel) rfl rfl (Nat.le_of_ble_eq_true rfl) dX11_init_56 (fun H locs hP hD hS => ?_)
  have hP : va_P g.1 vwCl ([(a, .inr (11, [.ref (a1 (1)), .ref (a2 (6)), .ref (a3 (47)), .ref (a4 (171)), .ref (a5 (372)), .null, .null, .null]))] ++ dWL g (dmix (dmix (dmix (dmix (dmix (fun _ => 0) a1 (1) 5) a2 (6) 41) a3 (47) 124) a4 (171) 201) a5 (372) 19) dI ((((([] ++ List.range' (1) 5) ++ List.range' (6) 41) ++ List.range' (47) 124) ++ List.range' (171) 201) ++ List.range' (372) 19)) H := hP
  have hD : va_D (dAc a s.heap.size) ([(a, .inr (11, [.ref (a1 (1)), .ref (a2 (6)), .ref (a3 (47)), .ref (a4 (171)), .ref (a5 (372)), .null, .null, .null]))] ++ dWL g (dmix (dmix (dmix (dmix (dmix (fun _ => 0) a1 (1) 5) a2 (6) 41) a3 (47) 124) a4 (171) 201) a5 (372) 19) dI ((((([] ++ List.range' (1) 5) ++ List.range' (6) 41) ++ List.range' (47) 124) ++ List.range' (171) 201) ++ List.range' (372) 19)) := hD
  refine lv_aload_n S.1 S.2.1 dX11_init_59 rfl (lv_at hl 0 rfl) ?_
  refine d_newo (C := RX9) (T := TX9) (N := 2) (ci := 9) (fs := [.null, .null]) (k1 := 2) (k2 := 20) (391) 3 tyX9 tyX9_ok S in9 (S.2.2.2.2 (.classLink RX11 44 RX9) (List.mem_of_getElem? (i := 24) rfl)) (S.2.2.2.2 (.instantiable RX9 2) (List.mem_of_getElem? (i := 25) rfl)) (S.2.2.2.2 (.initialized RX9) (List.mem_of_getElem? (i := 26) rfl)) hE hAb hP hD hS hA rfl hfsX9 (fun q9 H9 locs9 c9 s9 hp hf => va_runIN (As := []) (rest := [.ref q9, .ref a]) S (kiX9 l g (c := 391) (by decide +kernel) q9 _) ⟨va_cnB 0 S.2.2.2.2 gX11_init_X9_init_n46 rfl rfl rfl (dnqi_RX11_46 hE) (S.2.2.2.2 (.initialized RX9) (List.mem_of_getElem? (i := 26) rfl)) yniX9 ⟨(Nat.le_of_ble_eq_true rfl), (Nat.le_of_ble_eq_true rfl)⟩, rfl, S.2.2.2.2 (.instanceMethod yX9_init) (List.mem_of_getElem? (i := 62) rfl)⟩ hp rfl rfl hl.1 rfl (lv_room (Nat.le_of_ble_eq_true rfl)) dX11_init_64 hf) (Nat.le_of_ble_eq_true rfl) (Nat.le_of_ble_eq_true rfl) dX11_init_60 dX11_init_63 (fun a6 H locs hP hD hS => ?_)
  obtain ⟨hP, hD⟩ := d_mix (dAp_of (by decide +kernel)) hP hD
  refine va_putF (D := g.1) (ci := 11) (v := .ref (a6 (391))) (ty := .object "DrillField$Spots") (C := RX11) (T := TX11) (N := 8) S.1 S.2.1 S.2.2.2.2 in11 tyX11 tyX11_ok nmX11 S.2.2.2.1 hE.1 hP hD hS 0 rfl rfl 5 (by decide) (S.2.2.2.2 (.fieldLink RX11 47 "DrillField" "sounding" "LDrillField$Spots;") (List.mem_of_getElem? (i := 27) rfl)) (fun _ h => h) rfl hin rfl (by decide +kernel) rfl rfl (Nat.le_of_ble_eq_true rfl) dX11_init_67 (fun H locs hP hD hS => ?_)
  have hP : va_P g.1 vwCl ([(a, .inr (11, [.ref (a1 (1)), .ref (a2 (6)), .ref (a3 (47)), .ref (a4 (171)), .ref (a5 (372)), .ref (a6 (391)), .null, .null]))] ++ dWL g (dmix (dmix (dmix (dmix (dmix (dmix (fun _ => 0) a1 (1) 5) a2 (6) 41) a3 (47) 124) a4 (171) 201) a5 (372) 19) a6 (391) 3) dI (((((([] ++ List.range' (1) 5) ++ List.range' (6) 41) ++ List.range' (47) 124) ++ List.range' (171) 201) ++ List.range' (372) 19) ++ List.range' (391) 3)) H := hP
  have hD : va_D (dAc a s.heap.size) ([(a, .inr (11, [.ref (a1 (1)), .ref (a2 (6)), .ref (a3 (47)), .ref (a4 (171)), .ref (a5 (372)), .ref (a6 (391)), .null, .null]))] ++ dWL g (dmix (dmix (dmix (dmix (dmix (dmix (fun _ => 0) a1 (1) 5) a2 (6) 41) a3 (47) 124) a4 (171) 201) a5 (372) 19) a6 (391) 3) dI (((((([] ++ List.range' (1) 5) ++ List.range' (6) 41) ++ List.range' (47) 124) ++ List.range' (171) 201) ++ List.range' (372) 19) ++ List.range' (391) 3)) := hD
  refine lv_aload_n S.1 S.2.1 dX11_init_70 rfl (lv_at hl 0 rfl) ?_
  refine d_newo (C := RX3) (T := TX3) (N := 3) (ci := 3) (fs := [.null, .null, .int 0]) (k1 := 40) (k2 := 298) (394) 41 tyX3 tyX3_ok S in3 (S.2.2.2.2 (.classLink RX11 51 RX3) (List.mem_of_getElem? (i := 28) rfl)) (S.2.2.2.2 (.instantiable RX3 3) (List.mem_of_getElem? (i := 29) rfl)) (S.2.2.2.2 (.initialized RX3) (List.mem_of_getElem? (i := 30) rfl)) hE hAb hP hD hS hA rfl hfsX3 (fun q9 H9 locs9 c9 s9 hp hf => va_runI (As := []) (rest := [.ref q9, .ref a]) S (kiX3 l g q9 _) (cwI 0 S.2.2.2.2 gX11_init_X3_init rfl rfl rfl (S.2.2.2.2 (.initialized RX3) (List.mem_of_getElem? (i := 30) rfl)) (S.2.2.2.2 (.methodLink RX11 53 yX3_init) (List.mem_of_getElem? (i := 129) rfl)) (S.2.2.2.2 (.instanceMethod yX3_init) (List.mem_of_getElem? (i := 130) rfl)) rfl yniX3 ⟨(Nat.le_of_ble_eq_true rfl), (Nat.le_of_ble_eq_true rfl)⟩) hp rfl rfl hl.1 rfl (lv_room (Nat.le_of_ble_eq_true rfl)) dX11_init_75 hf) (Nat.le_of_ble_eq_true rfl) (Nat.le_of_ble_eq_true rfl) dX11_init_71 dX11_init_74 (fun a7 H locs hP hD hS => ?_)
  obtain ⟨hP, hD⟩ := d_mix (dAp_of (by decide +kernel)) hP hD
  refine va_putF (D := g.1) (ci := 11) (v := .ref (a7 (394))) (ty := .object "DrillField$Pages") (C := RX11) (T := TX11) (N := 8) S.1 S.2.1 S.2.2.2.2 in11 tyX11 tyX11_ok nmX11 S.2.2.2.1 hE.1 hP hD hS 0 rfl rfl 6 (by decide) (S.2.2.2.2 (.fieldLink RX11 54 "DrillField" "pages" "LDrillField$Pages;") (List.mem_of_getElem? (i := 31) rfl)) (fun _ h => h) rfl hin rfl (by decide +kernel) rfl rfl (Nat.le_of_ble_eq_true rfl) dX11_init_78 (fun H locs hP hD hS => ?_)
  have hP : va_P g.1 vwCl ([(a, .inr (11, [.ref (a1 (1)), .ref (a2 (6)), .ref (a3 (47)), .ref (a4 (171)), .ref (a5 (372)), .ref (a6 (391)), .ref (a7 (394)), .null]))] ++ dWL g (dmix (dmix (dmix (dmix (dmix (dmix (dmix (fun _ => 0) a1 (1) 5) a2 (6) 41) a3 (47) 124) a4 (171) 201) a5 (372) 19) a6 (391) 3) a7 (394) 41) dI ((((((([] ++ List.range' (1) 5) ++ List.range' (6) 41) ++ List.range' (47) 124) ++ List.range' (171) 201) ++ List.range' (372) 19) ++ List.range' (391) 3) ++ List.range' (394) 41)) H := hP
  have hD : va_D (dAc a s.heap.size) ([(a, .inr (11, [.ref (a1 (1)), .ref (a2 (6)), .ref (a3 (47)), .ref (a4 (171)), .ref (a5 (372)), .ref (a6 (391)), .ref (a7 (394)), .null]))] ++ dWL g (dmix (dmix (dmix (dmix (dmix (dmix (dmix (fun _ => 0) a1 (1) 5) a2 (6) 41) a3 (47) 124) a4 (171) 201) a5 (372) 19) a6 (391) 3) a7 (394) 41) dI ((((((([] ++ List.range' (1) 5) ++ List.range' (6) 41) ++ List.range' (47) 124) ++ List.range' (171) 201) ++ List.range' (372) 19) ++ List.range' (391) 3) ++ List.range' (394) 41)) := hD
  refine lv_aload_n S.1 S.2.1 dX11_init_81 rfl (lv_at hl 0 rfl) ?_
  refine d_newo (C := RX0) (T := TX0) (N := 4) (ci := 0) (fs := [.null, .null, .int 0, .int 0]) (k1 := 8) (k2 := 36) (435) 9 tyX0 tyX0_ok S in0 (S.2.2.2.2 (.classLink RX11 58 RX0) (List.mem_of_getElem? (i := 32) rfl)) (S.2.2.2.2 (.instantiable RX0 4) (List.mem_of_getElem? (i := 33) rfl)) (S.2.2.2.2 (.initialized RX0) (List.mem_of_getElem? (i := 34) rfl)) hE hAb hP hD hS hA rfl hfsX0 (fun q9 H9 locs9 c9 s9 hp hf => va_runIN (As := []) (rest := [.ref q9, .ref a]) S (kiX0 l g q9 _) ⟨va_cnB 0 S.2.2.2.2 gX11_init_X0_init_n60 rfl rfl rfl (dnqi_RX11_60 hE) (S.2.2.2.2 (.initialized RX0) (List.mem_of_getElem? (i := 34) rfl)) yniX0 ⟨(Nat.le_of_ble_eq_true rfl), (Nat.le_of_ble_eq_true rfl)⟩, rfl, S.2.2.2.2 (.instanceMethod yX0_init) (List.mem_of_getElem? (i := 136) rfl)⟩ hp rfl rfl hl.1 rfl (lv_room (Nat.le_of_ble_eq_true rfl)) dX11_init_86 hf) (Nat.le_of_ble_eq_true rfl) (Nat.le_of_ble_eq_true rfl) dX11_init_82 dX11_init_85 (fun a8 H locs hP hD hS => ?_)
  obtain ⟨hP, hD⟩ := d_mix (dAp_of (by decide +kernel)) hP hD
  refine va_putF (D := g.1) (ci := 11) (v := .ref (a8 (435))) (ty := .object "DrillField$Contest") (C := RX11) (T := TX11) (N := 8) S.1 S.2.1 S.2.2.2.2 in11 tyX11 tyX11_ok nmX11 S.2.2.2.1 hE.1 hP hD hS 0 rfl rfl 7 (by decide) (S.2.2.2.2 (.fieldLink RX11 61 "DrillField" "contest" "LDrillField$Contest;") (List.mem_of_getElem? (i := 35) rfl)) (fun _ h => h) rfl hin rfl (by decide +kernel) rfl rfl (Nat.le_of_ble_eq_true rfl) dX11_init_89 (fun H locs hP hD hS => ?_)
  have hP : va_P g.1 vwCl ([(a, .inr (11, [.ref (a1 (1)), .ref (a2 (6)), .ref (a3 (47)), .ref (a4 (171)), .ref (a5 (372)), .ref (a6 (391)), .ref (a7 (394)), .ref (a8 (435))]))] ++ dWL g (dmix (dmix (dmix (dmix (dmix (dmix (dmix (dmix (fun _ => 0) a1 (1) 5) a2 (6) 41) a3 (47) 124) a4 (171) 201) a5 (372) 19) a6 (391) 3) a7 (394) 41) a8 (435) 9) dI (((((((([] ++ List.range' (1) 5) ++ List.range' (6) 41) ++ List.range' (47) 124) ++ List.range' (171) 201) ++ List.range' (372) 19) ++ List.range' (391) 3) ++ List.range' (394) 41) ++ List.range' (435) 9)) H := hP
  have hD : va_D (dAc a s.heap.size) ([(a, .inr (11, [.ref (a1 (1)), .ref (a2 (6)), .ref (a3 (47)), .ref (a4 (171)), .ref (a5 (372)), .ref (a6 (391)), .ref (a7 (394)), .ref (a8 (435))]))] ++ dWL g (dmix (dmix (dmix (dmix (dmix (dmix (dmix (dmix (fun _ => 0) a1 (1) 5) a2 (6) 41) a3 (47) 124) a4 (171) 201) a5 (372) 19) a6 (391) 3) a7 (394) 41) a8 (435) 9) dI (((((((([] ++ List.range' (1) 5) ++ List.range' (6) 41) ++ List.range' (47) 124) ++ List.range' (171) 201) ++ List.range' (372) 19) ++ List.range' (391) 3) ++ List.range' (394) 41) ++ List.range' (435) 9)) := hD
  refine d_tc (ad := (fun j => if j = 0 then a else (dmix (dmix (dmix (dmix (dmix (dmix (dmix (dmix (fun _ => 0) a1 (1) 5) a2 (6) 41) a3 (47) 124) a4 (171) 201) a5 (372) 19) a6 (391) 3) a7 (394) 41) a8 (435) 9) j)) (ids := ([0] ++ (((((((([] ++ List.range' (1) 5) ++ List.range' (6) 41) ++ List.range' (47) 124) ++ List.range' (171) 201) ++ List.range' (372) 19) ++ List.range' (391) 3) ++ List.range' (394) 41) ++ List.range' (435) 9))) S hr hlk ?_ (fun i h1 h2 => ?_) (if_pos rfl) (of_decide_eq_true (by decide +kernel)) hP hD hS (Nat.le_of_ble_eq_true rfl) (Nat.le_of_ble_eq_true rfl) dX11_init_92
  · show (_ :: _) = (_ :: _)
    refine List.cons_eq_cons.mpr ⟨?_, ?_⟩
    · refine Prod.ext (by simp) ?_
      show _ = dct (dga g _) dI (0)
      rw [dck12 (show dK 0 = 12 by decide +kernel)]
      simp [dmix, (show dK 0 = 12 by decide +kernel), dI_at, dI1]
    · exact dWL_no (xs := [0]) (by decide +kernel) (fun j hj => by rw [if_neg (by simpa using hj)])
  · have := List.all_eq_true.mp (show ((List.range' (0) 444).all fun i => (([0] ++ (((((((([] ++ List.range' (1) 5) ++ List.range' (6) 41) ++ List.range' (47) 124) ++ List.range' (171) 201) ++ List.range' (372) 19) ++ List.range' (391) 3) ++ List.range' (394) 41) ++ List.range' (435) 9))).contains i) = true from (by decide +kernel)) i (List.mem_range'_1.mpr ⟨h1, h2⟩)
    simpa using this
