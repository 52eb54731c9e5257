/-! the law's rows: its wrappers catch what the class throws; its own objects are made one behind the other -/
def dNoX (g : dG) : String → State → State → Prop := vx_X (fun (_ : Unit) => False) (fun _ _ _ => False) (dA g)
abbrev dLMet (l : Launch) (g : dG) (y : MethodName) (ws : List Cond) (f n k : Nat) (av : List Value) (m : dM) (r0 : Int32) (m0 : dM) : Prop := vx_Met l y ws (dXm f n k) (va_Pc av (dIn g m)) (va_Qi (fun (r : Int32) (u : dM) => r = r0 ∧ u = m0) (dIn g) (dA g)) (dNoX g) k (6 * k) (dA g)
abbrev dLJet (l : Launch) (g : dG) (y : MethodName) (ws : List Cond) (f n k : Nat) (av : List Value) (m : dM) (r0 : Int64) (m0 : dM) : Prop := vx_Met l y ws (dXm f n k) (va_Pc av (dIn g m)) (va_Ql (fun (r : Int64) (u : dM) => r = r0 ∧ u = m0) (dIn g) (dA g)) (dNoX g) k (6 * k) (dA g)
theorem dLof {l : Launch} {g : dG} {y : MethodName} {ws ws' : List Cond} {f n k : Nat} {cc : ByteArray} {maxL : Nat} {ret : Option FieldType} {hh : List (Nat × Nat × Nat × Nat)} {mm : dM} {Qc : Array Value → State → Outcome → State → Prop} (av : List Value) (hy : plainName y.cls = true) (hw : ws = Cond.codeWith y cc maxL ret hh :: ws') (hlen : (lg_sl av).length ≤ maxL)
    (body : ∀ (p : Program) (e : Env) (s : State) (m : MethodId) (below : List Frame) (meth : Method) (c : Code), CallFix p m c cc maxL s av.toArray ws y.cls → meth.sig.returnType = ret → meth.locks = false → c.exceptionTable.toList = tableOf hh → dEnv g s → ∀ (H : Heap) (ls : Array Slot), va_P g.1 vwCl (dws g mm) H → va_S (dA g) s.heap H [] → lv_has ls maxL (lv_args 0 av) →
      W p l e (headSpec ws (dXm f n k)).room s m av.toArray below meth c H [] 0 0 (vx_MQ below Qc (dNoX g) av.toArray s k (6 * k) (dA g)) (F0 m 0 ls [])) : vx_Met l y ws (dXm f n k) (va_Pc av (dIn g mm)) Qc (dNoX g) k (6 * k) (dA g) := by
  refine vx_ofWH (cc := cc) (maxL := maxL) (ret := ret) (hh := hh) hy hw ?_
  intro p e s m args below meth c s₁ B hml hv
  obtain ⟨rfl, hE, hP⟩ := hv
  have hl := lv_entry av (n := maxL) hlen
  rw [lg_entry_eq]
  have hts := atoms_spec (ws := ws) B.pre
  exact body p e s m below meth c ⟨B.exec, B.bytes, hml, findClass_of_methodNamed B.named, hts⟩ B.returns B.notSynchronized (vx_table (x := y) B (hts _ (by rw [hw]; exact List.mem_cons_self))) hE s.heap _ hP va_S.rf hl
/-- without a table of its own -/
theorem dPof {l : Launch} {g : dG} {y : MethodName} {ws ws' : List Cond} {f n k : Nat} {cc : ByteArray} {maxL : Nat} {ret : Option FieldType} {mm : dM} {Qc : Array Value → State → Outcome → State → Prop} (av : List Value) (hy : plainName y.cls = true) (hw : ws = Cond.code y cc maxL ret :: ws') (hlen : (lg_sl av).length ≤ maxL)
    (body : ∀ (p : Program) (e : Env) (s : State) (m : MethodId) (below : List Frame) (meth : Method) (c : Code), CallFix p m c cc maxL s av.toArray ws y.cls → meth.sig.returnType = ret → meth.locks = false → dEnv g s → ∀ (H : Heap) (ls : Array Slot), va_P g.1 vwCl (dws g mm) H → va_S (dA g) s.heap H [] → lv_has ls maxL (lv_args 0 av) →
      W p l e (headSpec ws (dXm f n k)).room s m av.toArray below meth c H [] 0 0 (vx_MQ below Qc (dNoX g) av.toArray s k (6 * k) (dA g)) (F0 m 0 ls [])) : vx_Met l y ws (dXm f n k) (va_Pc av (dIn g mm)) Qc (dNoX g) k (6 * k) (dA g) := by
  refine vx_ofW (cc := cc) (maxL := maxL) (ret := ret) hy hw ?_
  intro p e s m args below meth c s₁ B hml hnt hv
  obtain ⟨rfl, hE, hP⟩ := hv
  have hl := lv_entry av (n := maxL) hlen
  rw [lg_entry_eq]
  exact body p e s m below meth c ⟨B.exec, B.bytes, hml, findClass_of_methodNamed B.named, atoms_spec (ws := ws) B.pre⟩ B.returns B.notSynchronized hE s.heap _ hP va_S.rf hl
/-- a method of the law's that makes its own objects -/
abbrev dDm (f n k ks : Nat) : Room := { frames := f, cells := k, slots := ks, locals := n }
abbrev dDMet (l : Launch) (g : dG) (y : MethodName) (ws : List Cond) (f n k ks : Nat) : Prop := vx_Met l y ws (dDm f n k ks) (va_Pc [] (dEn0 g)) (va_Qi (fun (r : Int32) (_ : Unit) => r = 1) (fun _ _ => True) (dA g)) (dNoX g) k ks (dA g)
def dAs (s : State) : Nat → Prop := fun q => s.heap.size ≤ q
theorem dE0blind {g : dG} {av : List Value} : FrameBlind (va_Pc av (dEn0 g)) := fun a U f mk h => ⟨h.1, h.2.call f mk a⟩
theorem dEn0.at {g : dG} {s : State} (h : dEn0 g s) : dEn0 (g.1, g.2.1, g.2.2.1, s.heap.size) s := by
  obtain ⟨h1, h2, h3, h4, h5, h6, h7, h8, h9, h10, h11, h12, h13⟩ := h
  exact ⟨h1, h2, h3.narrow (fun q hq => Nat.le_trans h6 hq), h4.narrow (fun q hq => Nat.le_trans h6 hq), h5, Nat.le_refl _, h7, h8, h9, h10, h11, h12, h13⟩
theorem dDof {l : Launch} {g : dG} {y : MethodName} {ws ws' : List Cond} {f n k ks : Nat} {cc : ByteArray} {maxL : Nat} {ret : Option FieldType} (hy : plainName y.cls = true) (hw : ws = Cond.code y cc maxL ret :: ws')
    (body : ∀ (p : Program) (e : Env) (s : State) (m : MethodId) (below : List Frame) (meth : Method) (c : Code), CallFix p m c cc maxL s ([] : List Value).toArray ws y.cls → meth.sig.returnType = ret → meth.locks = false → dEn0 (g.1, g.2.1, g.2.2.1, s.heap.size) s → g.2.2.2 ≤ s.heap.size → ∀ (ls : Array Slot), lv_has ls maxL [] →
      W p l e (headSpec ws (dDm f n k ks)).room s m ([] : List Value).toArray below meth c s.heap [] 0 0 (vx_MQ below (va_Qi (fun (r : Int32) (_ : Unit) => r = 1) (fun _ _ => True) (dA g)) (dNoX g) ([] : List Value).toArray s k ks (dA g)) (F0 m 0 ls [])) : dDMet l g y ws f n k ks := by
  refine vx_ofW (cc := cc) (maxL := maxL) (ret := ret) hy hw ?_
  intro p e s m args below meth c s₁ B hml hnt hv
  obtain ⟨rfl, hE⟩ := hv
  have hl := lv_entry [] (n := maxL) (Nat.zero_le _)
  rw [lg_entry_eq]
  exact body p e s m below meth c ⟨B.exec, B.bytes, hml, findClass_of_methodNamed B.named, atoms_spec (ws := ws) B.pre⟩ B.returns B.notSynchronized hE.at hE.2.2.2.2.2.1 _ hl
/-- what stays of the machine for an object whose cells lie from g's last number on, in a method entered at s -/
def dEw (g : dG) (s : State) : Prop := va_K g.1 vwCl (dTys g) s ∧ (∀ q ∈ dNq, va_Nw (dNw q) s) ∧ vx_Zq Bundle.tN "UNASSIGNED_STACK" Bundle.steD (dA g) s s.heap ∧ vx_Zq Bundle.tN "SUPPRESSED_SENTINEL" Bundle.listD (dA g) s s.heap ∧ (∀ q ∈ dStr, ∃ sa, vk_R "DrillField" q.1 q.2 sa s) ∧ (∀ m, va_D (dA g) (dws g m)) ∧ s.heap.size ≤ g.2.2.2 ∧ (∀ x ∈ dDc, va_Nw (.declares x) s) ∧ (∀ x ∈ dExs, va_Nw (.castable x x) s) ∧ (∀ x ∈ dExs, ∀ z ∈ dExs, x ≠ z → va_Nc x z s)
theorem dEw.to {g : dG} {u U : State} (h : dEw g u) (hW : u.WarmedH U.vm) (hb : g.2.2.2 ≤ U.heap.size) (hk : ∀ q, q < u.heap.size → U.heap[q]? = u.heap[q]?) : dEnv g U :=
  ⟨va_K.moved hW.alike h.1, fun q hq => va_Nw.warmM hW (h.2.1 q hq), (vx_Zq.moved hW.alike h.2.2.1).kept (fun q h1 _ => hk q h1), (vx_Zq.moved hW.alike h.2.2.2.1).kept (fun q h1 _ => hk q h1), fun q hq => (h.2.2.2.2.1 q hq).elim fun sa hs => ⟨sa, hs.warm hW⟩, h.2.2.2.2.2.1, hb, fun x hx => va_Nw.warmD hW (h.2.2.2.2.2.2.2.1 x hx), fun x hx => va_Nw.warmC hW (h.2.2.2.2.2.2.2.2.1 x hx), fun x hx z hz n => va_Nc.moved hW.alike (h.2.2.2.2.2.2.2.2.2 x hx z hz n)⟩
theorem dEn0.w {g : dG} {ad : Nat → Nat} {b : Nat} {s : State} (h : dEn0 g s) (h1 : g.2.2.2 ≤ b) (h2 : s.heap.size ≤ b) (hD : ∀ m, va_D (dA (g.1, g.2.1, ad, b)) (dws (g.1, g.2.1, ad, b) m)) : dEw (g.1, g.2.1, ad, b) s :=
  ⟨h.1, fun q hq => h.2.1 q (List.mem_append_left _ hq), h.2.2.1.narrow (fun q hq => Nat.le_trans h1 hq), h.2.2.2.1.narrow (fun q hq => Nat.le_trans h1 hq), h.2.2.2.2.1, hD, h2, h.2.2.2.2.2.2.1, h.2.2.2.2.2.2.2.1, h.2.2.2.2.2.2.2.2.1⟩
section DWN
variable {p : Program} {l : Launch} {e : Env} {R : Room} {s : State} {m : MethodId} {args : Array Value} {below : List Frame} {meth : Method} {c : Code} {H : Heap} {locs : List Loc} {cells slots mc ms : Nat} {Q : State → Prop}
variable {g : dG} {mm m0 : dM} {cc bytes : ByteArray} {nL maxL n index i k pc : Nat} {ls : Array Slot} {rest st0 : List Value} {Ts ws : List Cond} {own C host : String} {y : MethodName} {ret : Option FieldType} {rm : Room} {a : Array Value} {K : Heap → Prop}
theorem dwS {av : List Value} (hE : dEw g s) (hP : va_P g.1 vwCl (dws g mm) H) (hS : va_S (dAs s) s.heap H locs) (hb : g.2.2.2 ≤ H.size) : PreS s H (va_Pc av (dIn g mm)) av :=
  ⟨dBlind, fun U hU hW => ⟨rfl, hE.to hW (by rw [hU]; exact hb) (fun q h1 => by rw [hU]; exact hS.2.1 q h1 (Nat.not_le.mpr h1)), by rw [hU]; exact hP⟩⟩
theorem dwV {av : List Value} {b : Nat} {q : vw_C} {ci : Nat} {fs : List Value} (hE : dEw g s) (hP : va_P g.1 vwCl (dws g mm) H) (hS : va_S (dAs s) s.heap H locs) (hb : g.2.2.2 ≤ H.size) (hc : vwCl[ci]? = some q) (he : (dws g mm)[b]? = some (dad g b, .inr (ci, fs))) : PreV s H q.1 (dad g b) (va_Pc (.ref (dad g b) :: av) (dIn g mm)) av :=
  ⟨dBlind, va_recv hE.1 hP hc he, fun U hU hW => ⟨rfl, hE.to hW (by rw [hU]; exact hb) (fun q h1 => by rw [hU]; exact hS.2.1 q h1 (Nat.not_le.mpr h1)), by rw [hU]; exact hP⟩⟩
theorem dwE (hE : dEn0 g s) (hS : va_S (dAs s) s.heap H locs) : PreS s H (va_Pc [] (dEn0 g)) [] :=
  ⟨dE0blind, fun U hU hW => ⟨rfl, hE.to hW (by rw [hU]; exact hS.1) (fun q h1 _ => by rw [hU]; exact hS.2.1 q h1 (Nat.not_le.mpr h1))⟩⟩
/-- behind a call: what was written is forgotten -/
theorem dwgo {H1 : Heap} {locs1 : List Loc} {fr : JFrame} (hE : dEw g s) (hb : g.2.2.2 ≤ H.size) (hKs : ∀ H H1 : Heap, (∀ q, q < g.2.2.2 → H1[q]? = H[q]?) → K H → K H1) (hK : K H) (hP1 : va_P g.1 vwCl (dws g m0) H1) (hz : H.size ≤ H1.size) (hk : ∀ q : Nat, q < H.size → ¬ dA g q → H1[q]? = H[q]?) (hS1 : va_S (dAs s) s.heap H1 locs1)
    (kk : ∀ (H1 : Heap), va_P g.1 vwCl (dws g m0) H1 → va_S (dAs s) s.heap H1 [] → g.2.2.2 ≤ H1.size → K H1 → W p l e R s m args below meth c H1 [] cells slots Q fr) : W p l e R s m args below meth c H1 locs1 cells slots Q fr :=
  va_forget (fun q hq => hS1.2.2 q hq) (kk H1 hP1 ⟨hS1.1, hS1.2.1, fun _ h => nomatch h⟩ (Nat.le_trans hb hz) (hKs H H1 (fun q hq => hk q (Nat.lt_of_lt_of_le hq hb) (Nat.not_le.mpr hq)) hK))
theorem dEw.in (hE : dEw g s) (q : Nat) (h : dA g q) : dAs s q := Nat.le_trans hE.2.2.2.2.2.2.1 h
theorem dwi {r0 : Int32} (hr : va_Run p l e R s m args below meth c H locs cells slots 0 0 (F0 m pc ls st0) rest (dQI g r0 m0 a) (dA g)) (hE : dEw g s) (hS : va_S (dAs s) s.heap H locs) (hb : g.2.2.2 ≤ H.size) (hKs : ∀ H H1 : Heap, (∀ q, q < g.2.2.2 → H1[q]? = H[q]?) → K H → K H1) (hK : K H)
    (kk : ∀ (H1 : Heap), va_P g.1 vwCl (dws g m0) H1 → va_S (dAs s) s.heap H1 [] → g.2.2.2 ≤ H1.size → K H1 → W p l e R s m args below meth c H1 [] cells slots Q (F0 m (pc + 3) ls (.int r0 :: rest))) : W p l e R s m args below meth c H locs cells slots Q (F0 m pc ls st0) :=
  va_calli hr hS (fun q _ h => hE.in q h) (fun q h => hE.in q h) (fun r u t H1 locs1 ht hvm hp hB hz hk hS1 => by
    obtain ⟨rfl, rfl⟩ := hp
    exact dwgo hE hb hKs hK (by rw [← ht]; exact hB.2) hz hk hS1 kk)
theorem dwxi {r0 : Int32} {o : (Nat × dM) ⊕ (Int32 × dM)} (hr : vx_Run p l e R s m args below meth c H locs cells slots mc ms (F0 m pc ls st0) rest (dXI g o a) (dXC g o) (dA g)) (ho : o = .inr (r0, m0)) (hE : dEw g s) (hS : va_S (dAs s) s.heap H locs) (hb : g.2.2.2 ≤ H.size) (hKs : ∀ H H1 : Heap, (∀ q, q < g.2.2.2 → H1[q]? = H[q]?) → K H → K H1) (hK : K H)
    (kk : ∀ (H1 : Heap), va_P g.1 vwCl (dws g m0) H1 → va_S (dAs s) s.heap H1 [] → g.2.2.2 ≤ H1.size → K H1 → W p l e R s m args below meth c H1 [] (cells + mc) (slots + ms) Q (F0 m (pc + 3) ls (.int r0 :: rest))) : W p l e R s m args below meth c H locs cells slots Q (F0 m pc ls st0) :=
  vx_calli hr hS (fun q _ h => hE.in q h) (fun q h => hE.in q h) (fun q _ h => hE.in q h) (fun E ce q9 u t H1 locs1 ht hvm hp hB hz hk hS1 h1 h2 h3 => by rw [ho] at hp; cases hp) (fun r u t H1 locs1 ht hvm hp hB hz hk hS1 => by
    obtain ⟨rfl, rfl⟩ := Prod.mk.inj (Sum.inr.inj (ho.symm.trans hp))
    exact dwgo hE hb hKs hK (by rw [← ht]; exact hB.2) hz hk hS1 kk)
theorem dwxj {r0 : Int64} {o : (Nat × dM) ⊕ (Int64 × dM)} (hr : vx_Run p l e R s m args below meth c H locs cells slots mc ms (F0 m pc ls st0) rest (dXJ g o a) (dXC g o) (dA g)) (ho : o = .inr (r0, m0)) (hE : dEw g s) (hS : va_S (dAs s) s.heap H locs) (hb : g.2.2.2 ≤ H.size) (hKs : ∀ H H1 : Heap, (∀ q, q < g.2.2.2 → H1[q]? = H[q]?) → K H → K H1) (hK : K H)
    (kk : ∀ (H1 : Heap), va_P g.1 vwCl (dws g m0) H1 → va_S (dAs s) s.heap H1 [] → g.2.2.2 ≤ H1.size → K H1 → W p l e R s m args below meth c H1 [] (cells + mc) (slots + ms) Q (F0 m (pc + 3) ls (.long r0 :: rest))) : W p l e R s m args below meth c H locs cells slots Q (F0 m pc ls st0) :=
  vx_calll hr hS (fun q _ h => hE.in q h) (fun q h => hE.in q h) (fun q _ h => hE.in q h) (fun E ce q9 u t H1 locs1 ht hvm hp hB hz hk hS1 h1 h2 h3 => by rw [ho] at hp; cases hp) (fun r u t H1 locs1 ht hvm hp hB hz hk hS1 => by
    obtain ⟨rfl, rfl⟩ := Prod.mk.inj (Sum.inr.inj (ho.symm.trans hp))
    exact dwgo hE hb hKs hK (by rw [← ht]; exact hB.2) hz hk hS1 kk)
theorem dwLi {r0 : Int32} (hr : vx_Run p l e R s m args below meth c H locs cells slots mc ms (F0 m pc ls st0) rest (va_Qi (fun (r : Int32) (u : dM) => r = r0 ∧ u = m0) (dIn g) (dA g) a) (dNoX g) (dA g)) (hE : dEw g s) (hS : va_S (dAs s) s.heap H locs) (hb : g.2.2.2 ≤ H.size) (hKs : ∀ H H1 : Heap, (∀ q, q < g.2.2.2 → H1[q]? = H[q]?) → K H → K H1) (hK : K H)
    (kk : ∀ (H1 : Heap), va_P g.1 vwCl (dws g m0) H1 → va_S (dAs s) s.heap H1 [] → g.2.2.2 ≤ H1.size → K H1 → W p l e R s m args below meth c H1 [] (cells + mc) (slots + ms) Q (F0 m (pc + 3) ls (.int r0 :: rest))) : W p l e R s m args below meth c H locs cells slots Q (F0 m pc ls st0) :=
  vx_calli hr hS (fun q _ h => hE.in q h) (fun q h => hE.in q h) (fun q _ h => hE.in q h) (fun E ce q9 u t H1 locs1 ht hvm hp hB hz hk hS1 h1 h2 h3 => hp.elim) (fun r u t H1 locs1 ht hvm hp hB hz hk hS1 => by
    obtain ⟨rfl, rfl⟩ := hp
    exact dwgo hE hb hKs hK (by rw [← ht]; exact hB.2) hz hk hS1 kk)
theorem dwLj {r0 : Int64} (hr : vx_Run p l e R s m args below meth c H locs cells slots mc ms (F0 m pc ls st0) rest (va_Ql (fun (r : Int64) (u : dM) => r = r0 ∧ u = m0) (dIn g) (dA g) a) (dNoX g) (dA g)) (hE : dEw g s) (hS : va_S (dAs s) s.heap H locs) (hb : g.2.2.2 ≤ H.size) (hKs : ∀ H H1 : Heap, (∀ q, q < g.2.2.2 → H1[q]? = H[q]?) → K H → K H1) (hK : K H)
    (kk : ∀ (H1 : Heap), va_P g.1 vwCl (dws g m0) H1 → va_S (dAs s) s.heap H1 [] → g.2.2.2 ≤ H1.size → K H1 → W p l e R s m args below meth c H1 [] (cells + mc) (slots + ms) Q (F0 m (pc + 3) ls (.long r0 :: rest))) : W p l e R s m args below meth c H locs cells slots Q (F0 m pc ls st0) :=
  vx_calll hr hS (fun q _ h => hE.in q h) (fun q h => hE.in q h) (fun q _ h => hE.in q h) (fun E ce q9 u t H1 locs1 ht hvm hp hB hz hk hS1 h1 h2 h3 => hp.elim) (fun r u t H1 locs1 ht hvm hp hB hz hk hS1 => by
    obtain ⟨rfl, rfl⟩ := hp
    exact dwgo hE hb hKs hK (by rw [← ht]; exact hB.2) hz hk hS1 kk)
/-- a call of a method that makes its own objects -/
theorem dwDi (hr : vx_Run p l e R s m args below meth c H locs cells slots mc ms (F0 m pc ls st0) rest (va_Qi (fun (r : Int32) (_ : Unit) => r = 1) (fun _ _ => True) (dA g) a) (dNoX g) (dA g)) (hg : s.heap.size ≤ g.2.2.2) (hS : va_S (dAs s) s.heap H locs)
    (kk : ∀ (H1 : Heap), va_S (dAs s) s.heap H1 [] → W p l e R s m args below meth c H1 [] (cells + mc) (slots + ms) Q (F0 m (pc + 3) ls (.int 1 :: rest))) : W p l e R s m args below meth c H locs cells slots Q (F0 m pc ls st0) :=
  vx_calli hr hS (fun q _ h => Nat.le_trans hg h) (fun q h => Nat.le_trans hg h) (fun q _ h => Nat.le_trans hg h) (fun E ce q9 u t H1 locs1 ht hvm hp hB hz hk hS1 h1 h2 h3 => hp.elim) (fun r u t H1 locs1 ht hvm hp hB hz hk hS1 => by
    obtain rfl := hp
    exact va_forget (fun q hq => hS1.2.2 q hq) (kk H1 ⟨hS1.1, hS1.2.1, fun _ h => nomatch h⟩))
/-! the same where the object was there before the method began -/
theorem doxi {r0 : Int32} {o : (Nat × dM) ⊕ (Int32 × dM)} (hr : vx_Run p l e R s m args below meth c H locs cells slots mc ms (F0 m pc ls st0) rest (dXI g o a) (dXC g o) (dA g)) (ho : o = .inr (r0, m0)) (hS : va_S (dA g) s.heap H locs)
    (kk : ∀ (H1 : Heap) (locs1 : List Loc), va_P g.1 vwCl (dws g m0) H1 → va_S (dA g) s.heap H1 locs1 → W p l e R s m args below meth c H1 locs1 (cells + mc) (slots + ms) Q (F0 m (pc + 3) ls (.int r0 :: rest))) : W p l e R s m args below meth c H locs cells slots Q (F0 m pc ls st0) :=
  vx_calli hr hS (fun _ _ h => h) (fun _ h => h) (fun _ _ h => h) (fun E ce q9 u t H1 locs1 ht hvm hp hB hz hk hS1 h1 h2 h3 => by rw [ho] at hp; cases hp) (fun r u t H1 locs1 ht hvm hp hB hz hk hS1 => by
    obtain ⟨rfl, rfl⟩ := Prod.mk.inj (Sum.inr.inj (ho.symm.trans hp))
    exact kk H1 locs1 (by rw [← ht]; exact hB.2) hS1)
theorem doLi {r0 : Int32} (hr : vx_Run p l e R s m args below meth c H locs cells slots mc ms (F0 m pc ls st0) rest (va_Qi (fun (r : Int32) (u : dM) => r = r0 ∧ u = m0) (dIn g) (dA g) a) (dNoX g) (dA g)) (hS : va_S (dA g) s.heap H locs)
    (kk : ∀ (H1 : Heap) (locs1 : List Loc), va_P g.1 vwCl (dws g m0) H1 → va_S (dA g) s.heap H1 locs1 → W p l e R s m args below meth c H1 locs1 (cells + mc) (slots + ms) Q (F0 m (pc + 3) ls (.int r0 :: rest))) : W p l e R s m args below meth c H locs cells slots Q (F0 m pc ls st0) :=
  vx_calli hr hS (fun _ _ h => h) (fun _ h => h) (fun _ _ h => h) (fun E ce q9 u t H1 locs1 ht hvm hp hB hz hk hS1 h1 h2 h3 => hp.elim) (fun r u t H1 locs1 ht hvm hp hB hz hk hS1 => by
    obtain ⟨rfl, rfl⟩ := hp
    exact kk H1 locs1 (by rw [← ht]; exact hB.2) hS1)
theorem doLj {r0 : Int64} (hr : vx_Run p l e R s m args below meth c H locs cells slots mc ms (F0 m pc ls st0) rest (va_Ql (fun (r : Int64) (u : dM) => r = r0 ∧ u = m0) (dIn g) (dA g) a) (dNoX g) (dA g)) (hS : va_S (dA g) s.heap H locs)
    (kk : ∀ (H1 : Heap) (locs1 : List Loc), va_P g.1 vwCl (dws g m0) H1 → va_S (dA g) s.heap H1 locs1 → W p l e R s m args below meth c H1 locs1 (cells + mc) (slots + ms) Q (F0 m (pc + 3) ls (.long r0 :: rest))) : W p l e R s m args below meth c H locs cells slots Q (F0 m pc ls st0) :=
  vx_calll hr hS (fun _ _ h => h) (fun _ h => h) (fun _ _ h => h) (fun E ce q9 u t H1 locs1 ht hvm hp hB hz hk hS1 h1 h2 h3 => hp.elim) (fun r u t H1 locs1 ht hvm hp hB hz hk hS1 => by
    obtain ⟨rfl, rfl⟩ := hp
    exact kk H1 locs1 (by rw [← ht]; exact hB.2) hS1)
theorem dLti {r0 : Int32} {ty : FieldType} (S : CallFix p m c cc nL s args Ts own) (hr : meth.sig.returnType = some ty) (hlk : meth.locks = false) (hE : dEnv g s) (hP : va_P g.1 vwCl (dws g m0) H) (hS : va_S (dA g) s.heap H locs) (hn : narrow ty (.int r0) = .int r0) (hc : cells ≤ mc) (hs : slots ≤ ms) (hdg : decode cc pc = .ok (.ireturn, 1)) :
    W p l e R s m args below meth c H locs cells slots (vx_MQ below (va_Qi (fun (r : Int32) (u : dM) => r = r0 ∧ u = m0) (dIn g) (dA g)) (dNoX g) args s mc ms (dA g)) (F0 m pc ls [.int r0]) :=
  W.widen hc hs (vx_ret (W.zret (v := r0) S.1 S.2.1 hr hn (fun t ht hW => ⟨⟨r0, m0, rfl, ⟨rfl, rfl⟩, hE.to hW (by rw [ht]; exact hS.1) (by rw [ht]; exact hS.2.1), by rw [ht]; exact hP⟩, hS.F ht⟩) hS.2.2 hdg hlk))
theorem dLtj {r0 : Int64} (S : CallFix p m c cc nL s args Ts own) (hr : meth.sig.returnType = some .long) (hlk : meth.locks = false) (hE : dEnv g s) (hP : va_P g.1 vwCl (dws g m0) H) (hS : va_S (dA g) s.heap H locs) (hc : cells ≤ mc) (hs : slots ≤ ms) (hdg : decode cc pc = .ok (.lreturn, 1)) :
    W p l e R s m args below meth c H locs cells slots (vx_MQ below (va_Ql (fun (r : Int64) (u : dM) => r = r0 ∧ u = m0) (dIn g) (dA g)) (dNoX g) args s mc ms (dA g)) (F0 m pc ls [.long r0]) :=
  W.widen hc hs (vx_ret (W.lret (v := r0) S.1 S.2.1 hr (fun t ht hW => ⟨⟨r0, m0, rfl, ⟨rfl, rfl⟩, hE.to hW (by rw [ht]; exact hS.1) (by rw [ht]; exact hS.2.1), by rw [ht]; exact hP⟩, hS.F ht⟩) hS.2.2 hdg hlk))
theorem dDti {ty : FieldType} (S : CallFix p m c cc nL s args Ts own) (hr : meth.sig.returnType = some ty) (hlk : meth.locks = false) (hg : g.2.2.2 ≤ s.heap.size) (hS : va_S (dAs s) s.heap H []) (hn : narrow ty (.int 1) = .int 1) (hc : cells ≤ mc) (hs : slots ≤ ms) (hdg : decode cc pc = .ok (.ireturn, 1)) :
    W p l e R s m args below meth c H [] cells slots (vx_MQ below (va_Qi (fun (r : Int32) (_ : Unit) => r = 1) (fun _ _ => True) (dA g)) (dNoX g) args s mc ms (dA g)) (F0 m pc ls [.int 1]) :=
  W.widen hc hs (vx_ret (W.zret (v := 1) S.1 S.2.1 hr hn (fun t ht hW => ⟨⟨1, (), rfl, rfl, trivial⟩, by rw [ht]; exact hS.1, fun q h1 h2 => by rw [ht]; exact hS.2.1 q h1 (fun h => h2 (Nat.le_trans hg h))⟩) (fun _ h => nomatch h) hdg hlk))
/-- a value that comes from several ways -/
theorem W_tern {pc J : Nat} {E : Int32} (k : ∀ v : Int32, v = E → W p l e R s m args below meth c H locs cells slots Q (F0 m J ls (.int v :: rest))) (b : (∀ z : Int32, E = z → W p l e R s m args below meth c H locs cells slots Q (F0 m J ls (.int z :: rest))) → W p l e R s m args below meth c H locs cells slots Q (F0 m pc ls st0)) : W p l e R s m args below meth c H locs cells slots Q (F0 m pc ls st0) := b fun z hz => k z hz.symm
theorem W_ternj {pc J : Nat} {E : Int64} (k : ∀ v : Int64, v = E → W p l e R s m args below meth c H locs cells slots Q (F0 m J ls (.long v :: rest))) (b : (∀ z : Int64, E = z → W p l e R s m args below meth c H locs cells slots Q (F0 m J ls (.long z :: rest))) → W p l e R s m args below meth c H locs cells slots Q (F0 m pc ls st0)) : W p l e R s m args below meth c H locs cells slots Q (F0 m pc ls st0) := b fun z hz => k z hz.symm
/-- new DrillField: its cells lie behind all that was there -/
theorem d_newF {ik : Nat} {fs : List Value} {k1 k2 : Nat} {g0 : dG} (S : CallFix p m c cc nL s args Ts own) (hin : ∀ w ∈ wsX110, w ∈ Ts) (hcl : (Cond.classLink own ik RX11).before args s = true) (hinst : (Cond.instantiable RX11 8).before args s = true) (hini : (Cond.initialized RX11).before args s = true)
    (hE : dEn0 g0 s) (hg : g0.2.2.2 = s.heap.size) (hS : va_S (dAs s) s.heap H []) (hfs : ∀ j, j < 8 → defaultValue (tyX11 j) = vp_V fs j)
    (hrun : ∀ (q : Nat) (H1 : Heap) (locs1 : List Loc) (cells1 slots1 : Nat), PreS s H1 (va_Pc [.ref q] (dCp g0 11 fs q H1.size)) [.ref q] → cells1 + k1 ≤ R.cells ∧ slots1 + k2 ≤ R.slots → va_Run p l e R s m args below meth c H1 locs1 cells1 slots1 k1 k2 (F0 m (pc + 4) ls (.ref q :: .ref q :: rest)) (.ref q :: rest) (dCQ g0 dI 0 444 q H1.size #[.ref q]) (dAc q H1.size))
    (hR1 : cells + 1 + k1 ≤ R.cells) (hR2 : slots + 8 + k2 ≤ R.slots) (d0 : decode cc pc = .ok (.new ik, 3)) (d3 : decode cc (pc + 3) = .ok (.dup, 1))
    (kk : ∀ (g : dG) (H1 : Heap), dEw g s → g.2.2.2 = H.size → va_P g.1 vwCl (dws g dI) H1 → va_S (dAs s) s.heap H1 [] → H.size ≤ H1.size → (∀ q, q < H.size → H1[q]? = H[q]?) → W p l e R s m args below meth c H1 [] (cells + 1 + k1) (slots + 8 + k2) Q (F0 m (pc + 7) ls (.ref (dad g 0) :: rest))) : W p l e R s m args below meth c H [] cells slots Q (F0 m pc ls rest) := by
  have hAs : ∀ q : Nat, H.size ≤ q → s.heap.size ≤ q := fun q h => Nat.le_trans hS.1 h
  have hP0 : va_P g0.1 vwCl ([] : va_W) H := fun k q h => by simp at h
  have hD0 : va_D (fun q => H.size ≤ q) ([] : va_W) := ⟨fun i j x y h => by simp at h, fun k q h => by simp at h⟩
  refine va_new (C := RX11) (T := TX11) (N := 8) (ci := 11) (fs := fs) (A := fun q => H.size ≤ q) (H0 := H) (ws := []) S.1 S.2.1 S.2.2.2.2 hin tyX11 tyX11_ok S.2.2.2.1 hcl hinst hini hE.1 hP0 hD0 va_S.rf (fun q h => h) rfl hfs (by omega) (by omega) d0 (fun q H1 hP1 hD1 hS1 => ?_)
  refine lv_dup S.1 S.2.1 d3 rfl ?_
  have hAq : H.size ≤ q := hD1.2 0 (q, .inr (11, fs)) rfl
  have hPc : va_P g0.1 vwCl [(q, .inr (11, fs))] H1 := hP1
  have hf : ∀ x, dAc q H1.size x → H.size ≤ x := fun x h => by
    rcases h with rfl | h
    · exact hAq
    · exact Nat.le_trans hS1.1 h
  have hpre : PreS s H1 (va_Pc [.ref q] (dCp g0 11 fs q H1.size)) [.ref q] := ⟨dCblind, fun U hU hW => ⟨rfl, by rw [hU], by rw [hg]; exact hAs q hAq, hE.to hW (by rw [hU]; exact Nat.le_trans hS.1 hS1.1) (fun x h1 _ => by rw [hU, hS1.2.1 x (Nat.lt_of_lt_of_le h1 hS.1) (Nat.not_le.mpr (Nat.lt_of_lt_of_le h1 hS.1))]; exact hS.2.1 x h1 (Nat.not_le.mpr h1)), by rw [hU]; exact hPc⟩⟩
  refine va_callv (A0 := fun q => H.size ≤ q) (H0 := H) (hrun q H1 [] (cells + 1) (slots + 8) hpre ⟨hR1, hR2⟩) hS1 (fun x _ h => hf x h) hf (fun ad t H2 locs2 ht hvm hw hB hz hk hS2 => ?_)
  rw [ht] at hB
  obtain ⟨g1, g2, g3⟩ := hw
  have hge : ∀ i, i < 444 → H.size ≤ ad i := fun i hi => by
    rcases Nat.eq_zero_or_pos i with h0 | h0
    · subst h0; rw [g1]; exact hAq
    · exact Nat.le_trans hS1.1 (g3 i h0 (by omega))
  obtain ⟨gn, hgn⟩ : ∃ z : dG, z = (g0.1, g0.2.1, ad, H.size) := ⟨_, rfl⟩
  have hget : ∀ (m : dM) (k : Nat) (x : Nat × va_E), (dws gn m)[k]? = some x → k < 444 ∧ x.1 = ad k := fun m k x hx => by
    rcases Nat.lt_or_ge k 444 with hk | hk
    · rw [dws_get hk] at hx
      cases hx
      exact ⟨hk, by rw [hgn]; rfl⟩
    · rw [List.getElem?_eq_none (by rw [dws_len]; exact hk)] at hx
      cases hx
  have hDn : ∀ m, va_D (dA gn) (dws gn m) := fun m => ⟨fun i j x y hi hj hxy => by
    obtain ⟨i1, i2⟩ := hget m i x hi
    obtain ⟨j1, j2⟩ := hget m j y hj
    exact g2 i j (by omega) (by omega) (by omega) (by omega) (by rw [← i2, ← j2]; exact hxy), fun k x hx => by
    obtain ⟨i1, i2⟩ := hget m k x hx
    rw [i2, hgn]
    exact hge k i1⟩
  have hEn : dEw gn s := by
    rw [hgn]
    exact hE.w (by rw [hg]; exact hS.1) hS.1 (by rw [← hgn]; exact hDn)
  have hPn : va_P gn.1 vwCl (dws gn dI) H2 := by
    have e : dws gn dI = dWL g0 ad dI (List.range' 0 444) := by
      rw [hgn, ← List.range_eq_range']; rfl
    rw [e, hgn]
    exact hB
  refine va_forget (fun x hx => hAs _ (hS2.2.2 x hx)) (W.eq (g2 := F0 m (pc + 7) ls (.ref (dad gn 0) :: rest)) (by rw [hgn, ← g1]; rfl) (kk gn H2 hEn (by rw [hgn]) hPn ⟨Nat.le_trans hS.1 hS2.1, fun x h1 h2 => by rw [hS2.2.1 x (Nat.lt_of_lt_of_le h1 hS.1) (Nat.not_le.mpr (Nat.lt_of_lt_of_le h1 hS.1))]; exact hS.2.1 x h1 h2, fun _ h => nomatch h⟩ hS2.1 (fun x hx => hS2.2.1 x hx (Nat.not_le.mpr hx))))
end DWN
theorem ynL_band : yL_band.cls ≠ "java/lang/invoke/MethodHandle" ∧ yL_band.cls ≠ "java/lang/invoke/VarHandle" ∧ (parseMethodDescriptor yL_band.desc).map (fun d => d.parameters.length) = some 2 := by decide +kernel
set_option maxRecDepth 20000 in
theorem ggL_band_X11_band : GoodIn wsL_band wsX11_band := goodIn_ca (goodIn_ca (goodIn_s _ [5, 6, 7, 8, 9, 10, 11, 4, 12, 13, 14, 15, 16, 17, 18, 19, 20, 21, 22, 23, 24, 25, 26, 27, 28, 29, 30, 31, 32, 33, 34, 35, 36, 37, 38, 39, 40, 41, 42, 43, 44, 45, 46, 47, 48, 49, 50, 51, 52, 53] (by decide +kernel) (by decide +kernel)) (goodIn_sub (fun _ h => List.mem_cons_of_mem _ (List.mem_append_left _ (List.mem_append_right _ h))) (by decide +kernel))) (goodIn_sub (fun _ h => List.mem_cons_of_mem _ (List.mem_append_right _ h)) (by decide +kernel))
set_option maxRecDepth 20000 in
theorem gL_band_X11_band : GoodIn wsL_band (wsV RL 7 RX11 yX11_band wsX11_band) := goodIn_app (goodIn_of _ (by decide +kernel)) ggL_band_X11_band
theorem dL_band_0 : decode cL_band 0 = .ok (.aload_n 0, 1) := by decide +kernel
theorem dL_band_1 : decode cL_band 1 = .ok (.iload_n 1, 1) := by decide +kernel
theorem dL_band_2 : decode cL_band 2 = .ok (.invokevirtual 7, 3) := by decide +kernel
theorem dL_band_5 : decode cL_band 5 = .ok (.iconst 1, 1) := by decide +kernel
theorem dL_band_6 : decode cL_band 6 = .ok (.ireturn, 1) := by decide +kernel
def fL_band (m : dM) (p0 : Nat) (p1 : Int32) : Option ((Nat × dM) ⊕ (Int32 × dM)) := dg (dkg p0 12) ((fX11_band m p0 p1).bind (fun q => dS q (fun x => some (.inl x)) (fun m2 => some (.inr (1, m2)))))
set_option maxHeartbeats 4000000 in
set_option maxRecDepth 100000 in
theorem kL_band (l : Launch) (g : dG) (hst : l.stackTraces = false) {m : dM} {p0 : Nat} {p1 : Int32} {o : ((Nat × dM) ⊕ (Int32 × dM))} (h : fL_band m p0 p1 = some o) : dXMet l g yL_band wsL_band 8 133 2 [.ref (dad g p0), .int p1] m o (dXI g o) := by
  refine dxof (cc := cL_band) (maxL := 2) (ret := (some .int)) _ (by decide) rfl (Nat.le_of_ble_eq_true rfl) ?_
  intro p e s mth below meth c S hr hlk hnt hE H ls hP hS hl
  have S : CallFix p mth c cL_band 2 s _ wsL_band RL := S
  have hl : lv_has ls 2 [(0, .ref (dad g p0)), (1, .int p1)] := hl
  obtain ⟨locs, hlocs⟩ : ∃ z : List Loc, z = [] := ⟨_, rfl⟩
  rw [← hlocs] at hS ⊢
  unfold fL_band at h
  obtain ⟨k0, h⟩ := d_g h
  have k0 := d_k k0
  refine lv_aload_n S.1 S.2.1 dL_band_0 rfl (lv_at hl 0 rfl) ?_
  refine lv_iload_n S.1 S.2.1 dL_band_1 rfl (lv_at hl 1 rfl) ?_
  obtain ⟨q3, hc1, h⟩ := d_b h
  refine dxrv (o := q3) (vx_runV (As := [.int p1]) (rest := []) S (kX11_band l g hst hc1) (cwV 1 S.2.2.2.2 gL_band_X11_band rfl rfl rfl ynX11_band ⟨Nat.le_of_ble_eq_true rfl, Nat.le_of_ble_eq_true rfl⟩) (dpV hE hP hS (ci := 11) rfl (dat12 k0)) rfl rfl hl.1 rfl (lv_room (Nat.le_of_ble_eq_true rfl)) dL_band_2 ⟨Nat.le_of_ble_eq_true rfl, Nat.le_of_ble_eq_true rfl⟩) hS (fun u4 q9 ce H locs eo hP hS h1 h2 h3 => ?_) (fun m2 H locs eo hP hS => ?_)
  · subst eo
    have h := d_s1 h
    obtain rfl := Option.some.inj h
    exact dxout rfl hnt hlk hP hS h1 h2 h3 (Nat.le_of_ble_eq_true rfl) (Nat.le_of_ble_eq_true rfl)
  · subst eo
    have h := d_s2 h
    refine lv_iconst (v := 1) S.1 S.2.1 dL_band_5 (by decide) ?_
    obtain rfl := Option.some.inj h
    exact dxti rfl S hr hlk hE hP hS rfl (Nat.le_of_ble_eq_true rfl) (Nat.le_of_ble_eq_true rfl) dL_band_6
theorem ynL_alternate : yL_alternate.cls ≠ "java/lang/invoke/MethodHandle" ∧ yL_alternate.cls ≠ "java/lang/invoke/VarHandle" ∧ (parseMethodDescriptor yL_alternate.desc).map (fun d => d.parameters.length) = some 4 := by decide +kernel
set_option maxRecDepth 20000 in
theorem ggL_alternate_X11_alternate : GoodIn wsL_alternate wsX11_alternate := goodIn_ca (goodIn_s _ [5, 6, 7, 8, 4, 9, 10, 11, 12, 13, 14, 15, 16, 17, 18, 19, 20, 21, 22, 23, 24, 25, 26, 27, 28, 29, 30, 31, 32, 33, 34, 35, 36, 37, 38, 39, 40, 41, 42, 43] (by decide +kernel) (by decide +kernel)) (goodIn_sub (fun _ h => List.mem_cons_of_mem _ (List.mem_append_right _ h)) (by decide +kernel))
set_option maxRecDepth 20000 in
theorem gL_alternate_X11_alternate : GoodIn wsL_alternate (wsV RL 13 RX11 yX11_alternate wsX11_alternate) := goodIn_app (goodIn_of _ (by decide +kernel)) ggL_alternate_X11_alternate
theorem dL_alternate_0 : decode cL_alternate 0 = .ok (.aload_n 0, 1) := by decide +kernel
theorem dL_alternate_1 : decode cL_alternate 1 = .ok (.iload_n 1, 1) := by decide +kernel
theorem dL_alternate_2 : decode cL_alternate 2 = .ok (.iload_n 2, 1) := by decide +kernel
theorem dL_alternate_3 : decode cL_alternate 3 = .ok (.iload_n 3, 1) := by decide +kernel
theorem dL_alternate_4 : decode cL_alternate 4 = .ok (.invokevirtual 13, 3) := by decide +kernel
theorem dL_alternate_7 : decode cL_alternate 7 = .ok (.iconst 1, 1) := by decide +kernel
theorem dL_alternate_8 : decode cL_alternate 8 = .ok (.ireturn, 1) := by decide +kernel
def fL_alternate (m : dM) (p0 : Nat) (p1 : Int32) (p2 : Int32) (p3 : Int32) : Option ((Nat × dM) ⊕ (Int32 × dM)) := dg (dkg p0 12) ((fX11_alternate m p0 p1 p2 p3).bind (fun q => dS q (fun x => some (.inl x)) (fun m2 => some (.inr (1, m2)))))
set_option maxHeartbeats 4000000 in
set_option maxRecDepth 100000 in
theorem kL_alternate (l : Launch) (g : dG) (hst : l.stackTraces = false) {m : dM} {p0 : Nat} {p1 : Int32} {p2 : Int32} {p3 : Int32} {o : ((Nat × dM) ⊕ (Int32 × dM))} (h : fL_alternate m p0 p1 p2 p3 = some o) : dXMet l g yL_alternate wsL_alternate 9 155 2 [.ref (dad g p0), .int p1, .int p2, .int p3] m o (dXI g o) := by
  refine dxof (cc := cL_alternate) (maxL := 4) (ret := (some .int)) _ (by decide) rfl (Nat.le_of_ble_eq_true rfl) ?_
  intro p e s mth below meth c S hr hlk hnt hE H ls hP hS hl
  have S : CallFix p mth c cL_alternate 4 s _ wsL_alternate RL := S
  have hl : lv_has ls 4 [(0, .ref (dad g p0)), (1, .int p1), (2, .int p2), (3, .int p3)] := hl
  obtain ⟨locs, hlocs⟩ : ∃ z : List Loc, z = [] := ⟨_, rfl⟩
  rw [← hlocs] at hS ⊢
  unfold fL_alternate at h
  obtain ⟨k0, h⟩ := d_g h
  have k0 := d_k k0
  refine lv_aload_n S.1 S.2.1 dL_alternate_0 rfl (lv_at hl 0 rfl) ?_
  refine lv_iload_n S.1 S.2.1 dL_alternate_1 rfl (lv_at hl 1 rfl) ?_
  refine lv_iload_n S.1 S.2.1 dL_alternate_2 rfl (lv_at hl 2 rfl) ?_
  refine lv_iload_n S.1 S.2.1 dL_alternate_3 rfl (lv_at hl 3 rfl) ?_
  obtain ⟨q3, hc1, h⟩ := d_b h
  refine dxrv (o := q3) (vx_runV (As := [.int p1, .int p2, .int p3]) (rest := []) S (kX11_alternate l g hst hc1) (cwV 3 S.2.2.2.2 gL_alternate_X11_alternate rfl rfl rfl ynX11_alternate ⟨Nat.le_of_ble_eq_true rfl, Nat.le_of_ble_eq_true rfl⟩) (dpV hE hP hS (ci := 11) rfl (dat12 k0)) rfl rfl hl.1 rfl (lv_room (Nat.le_of_ble_eq_true rfl)) dL_alternate_4 ⟨Nat.le_of_ble_eq_true rfl, Nat.le_of_ble_eq_true rfl⟩) hS (fun u4 q9 ce H locs eo hP hS h1 h2 h3 => ?_) (fun m2 H locs eo hP hS => ?_)
  · subst eo
    have h := d_s1 h
    obtain rfl := Option.some.inj h
    exact dxout rfl hnt hlk hP hS h1 h2 h3 (Nat.le_of_ble_eq_true rfl) (Nat.le_of_ble_eq_true rfl)
  · subst eo
    have h := d_s2 h
    refine lv_iconst (v := 1) S.1 S.2.1 dL_alternate_7 (by decide) ?_
    obtain rfl := Option.some.inj h
    exact dxti rfl S hr hlk hE hP hS rfl (Nat.le_of_ble_eq_true rfl) (Nat.le_of_ble_eq_true rfl) dL_alternate_8
theorem ynL_clock : yL_clock.cls ≠ "java/lang/invoke/MethodHandle" ∧ yL_clock.cls ≠ "java/lang/invoke/VarHandle" ∧ (parseMethodDescriptor yL_clock.desc).map (fun d => d.parameters.length) = some 3 := by decide +kernel
set_option maxRecDepth 20000 in
theorem ggL_clock_X11_clock : GoodIn wsL_clock wsX11_clock := goodIn_ca (goodIn_s _ [5, 6, 7, 8, 4, 9, 10, 11, 12, 13, 14, 15, 16, 17, 18, 19, 20, 21, 22, 23, 24, 25, 26, 27, 28, 29, 30, 31, 32, 33] (by decide +kernel) (by decide +kernel)) (goodIn_sub (fun _ h => List.mem_cons_of_mem _ (List.mem_append_right _ h)) (by decide +kernel))
set_option maxRecDepth 20000 in
theorem gL_clock_X11_clock : GoodIn wsL_clock (wsV RL 17 RX11 yX11_clock wsX11_clock) := goodIn_app (goodIn_of _ (by decide +kernel)) ggL_clock_X11_clock
theorem dL_clock_0 : decode cL_clock 0 = .ok (.aload_n 0, 1) := by decide +kernel
theorem dL_clock_1 : decode cL_clock 1 = .ok (.iload_n 1, 1) := by decide +kernel
theorem dL_clock_2 : decode cL_clock 2 = .ok (.iload_n 2, 1) := by decide +kernel
theorem dL_clock_3 : decode cL_clock 3 = .ok (.invokevirtual 17, 3) := by decide +kernel
theorem dL_clock_6 : decode cL_clock 6 = .ok (.iconst 1, 1) := by decide +kernel
theorem dL_clock_7 : decode cL_clock 7 = .ok (.ireturn, 1) := by decide +kernel
def fL_clock (m : dM) (p0 : Nat) (p1 : Int32) (p2 : Int32) : Option ((Nat × dM) ⊕ (Int32 × dM)) := dg (dkg p0 12) ((fX11_clock m p0 p1 p2).bind (fun q => dS q (fun x => some (.inl x)) (fun m2 => some (.inr (1, m2)))))
set_option maxHeartbeats 4000000 in
set_option maxRecDepth 100000 in
theorem kL_clock (l : Launch) (g : dG) (hst : l.stackTraces = false) {m : dM} {p0 : Nat} {p1 : Int32} {p2 : Int32} {o : ((Nat × dM) ⊕ (Int32 × dM))} (h : fL_clock m p0 p1 p2 = some o) : dXMet l g yL_clock wsL_clock 8 134 2 [.ref (dad g p0), .int p1, .int p2] m o (dXI g o) := by
  refine dxof (cc := cL_clock) (maxL := 3) (ret := (some .int)) _ (by decide) rfl (Nat.le_of_ble_eq_true rfl) ?_
  intro p e s mth below meth c S hr hlk hnt hE H ls hP hS hl
  have S : CallFix p mth c cL_clock 3 s _ wsL_clock RL := S
  have hl : lv_has ls 3 [(0, .ref (dad g p0)), (1, .int p1), (2, .int p2)] := hl
  obtain ⟨locs, hlocs⟩ : ∃ z : List Loc, z = [] := ⟨_, rfl⟩
  rw [← hlocs] at hS ⊢
  unfold fL_clock at h
  obtain ⟨k0, h⟩ := d_g h
  have k0 := d_k k0
  refine lv_aload_n S.1 S.2.1 dL_clock_0 rfl (lv_at hl 0 rfl) ?_
  refine lv_iload_n S.1 S.2.1 dL_clock_1 rfl (lv_at hl 1 rfl) ?_
  refine lv_iload_n S.1 S.2.1 dL_clock_2 rfl (lv_at hl 2 rfl) ?_
  obtain ⟨q3, hc1, h⟩ := d_b h
  refine dxrv (o := q3) (vx_runV (As := [.int p1, .int p2]) (rest := []) S (kX11_clock l g hst hc1) (cwV 2 S.2.2.2.2 gL_clock_X11_clock rfl rfl rfl ynX11_clock ⟨Nat.le_of_ble_eq_true rfl, Nat.le_of_ble_eq_true rfl⟩) (dpV hE hP hS (ci := 11) rfl (dat12 k0)) rfl rfl hl.1 rfl (lv_room (Nat.le_of_ble_eq_true rfl)) dL_clock_3 ⟨Nat.le_of_ble_eq_true rfl, Nat.le_of_ble_eq_true rfl⟩) hS (fun u4 q9 ce H locs eo hP hS h1 h2 h3 => ?_) (fun m2 H locs eo hP hS => ?_)
  · subst eo
    have h := d_s1 h
    obtain rfl := Option.some.inj h
    exact dxout rfl hnt hlk hP hS h1 h2 h3 (Nat.le_of_ble_eq_true rfl) (Nat.le_of_ble_eq_true rfl)
  · subst eo
    have h := d_s2 h
    refine lv_iconst (v := 1) S.1 S.2.1 dL_clock_6 (by decide) ?_
    obtain rfl := Option.some.inj h
    exact dxti rfl S hr hlk hE hP hS rfl (Nat.le_of_ble_eq_true rfl) (Nat.le_of_ble_eq_true rfl) dL_clock_7
theorem ynL_change : yL_change.cls ≠ "java/lang/invoke/MethodHandle" ∧ yL_change.cls ≠ "java/lang/invoke/VarHandle" ∧ (parseMethodDescriptor yL_change.desc).map (fun d => d.parameters.length) = some 5 := by decide +kernel
set_option maxRecDepth 20000 in
theorem ggL_change_X11_change : GoodIn wsL_change wsX11_change := goodIn_ca (goodIn_ca (goodIn_s _ [5, 6, 7, 8, 9, 10, 11, 4, 12, 13, 14, 15, 16, 17, 18, 19, 20, 21, 22, 23, 24, 25, 26, 27, 28, 29, 30, 31, 32, 33, 34, 35, 36, 37, 38, 39, 40, 41, 42, 43, 44, 45, 46, 47, 48, 49, 50, 51, 52, 53, 54, 55, 56, 57, 58, 59, 60, 61, 62, 63, 64, 65, 66, 67, 68, 69, 70, 71, 72, 73, 74, 75, 76, 77, 78, 79, 80, 81, 82, 83, 84, 85, 86, 87, 88, 89, 90, 91, 92, 93, 94, 95, 96, 97, 98, 99, 100, 101, 102, 103, 104, 105, 106, 107, 108, 109, 110, 111, 112, 113, 114, 115, 116, 117, 118, 119, 120, 121, 122, 123, 124, 125, 126, 127, 128, 129, 130, 131, 132, 133, 134, 135, 136, 137, 138, 139, 140, 141, 142, 143, 144, 145, 146, 147, 148, 149, 150, 151, 152, 153, 154, 155, 156, 157, 158, 159, 160, 161, 162, 163, 164, 165, 166, 167, 168, 169, 170, 171, 172, 173, 174, 175, 176, 177, 178, 179, 180, 181, 182, 183, 184, 185, 186, 187, 188, 189, 190, 191, 192, 193, 194, 195, 196, 197, 198, 199, 200, 201, 202, 203, 204, 205, 206, 207, 208, 209, 210, 211, 212, 213] (by decide +kernel) (by decide +kernel)) (goodIn_sub (fun _ h => List.mem_cons_of_mem _ (List.mem_append_left _ (List.mem_append_right _ h))) (by decide +kernel))) (goodIn_sub (fun _ h => List.mem_cons_of_mem _ (List.mem_append_right _ h)) (by decide +kernel))
set_option maxRecDepth 20000 in
theorem gL_change_X11_change : GoodIn wsL_change (wsV RL 21 RX11 yX11_change wsX11_change) := goodIn_app (goodIn_of _ (by decide +kernel)) ggL_change_X11_change
theorem dL_change_0 : decode cL_change 0 = .ok (.aload_n 0, 1) := by decide +kernel
theorem dL_change_1 : decode cL_change 1 = .ok (.iload_n 1, 1) := by decide +kernel
theorem dL_change_2 : decode cL_change 2 = .ok (.iload_n 2, 1) := by decide +kernel
theorem dL_change_3 : decode cL_change 3 = .ok (.iload_n 3, 1) := by decide +kernel
theorem dL_change_4 : decode cL_change 4 = .ok (.iload 4, 2) := by decide +kernel
theorem dL_change_6 : decode cL_change 6 = .ok (.iconst 1, 1) := by decide +kernel
theorem dL_change_7 : decode cL_change 7 = .ok (.invokevirtual 21, 3) := by decide +kernel
theorem dL_change_10 : decode cL_change 10 = .ok (.iconst 1, 1) := by decide +kernel
theorem dL_change_11 : decode cL_change 11 = .ok (.ireturn, 1) := by decide +kernel
def fL_change (m : dM) (p0 : Nat) (p1 : Int32) (p2 : Int32) (p3 : Int32) (p4 : Int32) : Option ((Nat × dM) ⊕ (Int32 × dM)) := dg (dkg p0 12) ((fX11_change m p0 p1 p2 p3 p4 1).bind (fun q => dS q (fun x => some (.inl x)) (fun m2 => some (.inr (1, m2)))))
set_option maxHeartbeats 4000000 in
set_option maxRecDepth 100000 in
theorem kL_change (l : Launch) (g : dG) (hst : l.stackTraces = false) {m : dM} {p0 : Nat} {p1 : Int32} {p2 : Int32} {p3 : Int32} {p4 : Int32} {o : ((Nat × dM) ⊕ (Int32 × dM))} (h : fL_change m p0 p1 p2 p3 p4 = some o) : dXMet l g yL_change wsL_change 9 166 4 [.ref (dad g p0), .int p1, .int p2, .int p3, .int p4] m o (dXI g o) := by
  refine dxof (cc := cL_change) (maxL := 5) (ret := (some .int)) _ (by decide) rfl (Nat.le_of_ble_eq_true rfl) ?_
  intro p e s mth below meth c S hr hlk hnt hE H ls hP hS hl
  have S : CallFix p mth c cL_change 5 s _ wsL_change RL := S
  have hl : lv_has ls 5 [(0, .ref (dad g p0)), (1, .int p1), (2, .int p2), (3, .int p3), (4, .int p4)] := hl
  obtain ⟨locs, hlocs⟩ : ∃ z : List Loc, z = [] := ⟨_, rfl⟩
  rw [← hlocs] at hS ⊢
  unfold fL_change at h
  obtain ⟨k0, h⟩ := d_g h
  have k0 := d_k k0
  refine lv_aload_n S.1 S.2.1 dL_change_0 rfl (lv_at hl 0 rfl) ?_
  refine lv_iload_n S.1 S.2.1 dL_change_1 rfl (lv_at hl 1 rfl) ?_
  refine lv_iload_n S.1 S.2.1 dL_change_2 rfl (lv_at hl 2 rfl) ?_
  refine lv_iload_n S.1 S.2.1 dL_change_3 rfl (lv_at hl 3 rfl) ?_
  refine lv_iload S.1 S.2.1 dL_change_4 (lv_at hl 4 rfl) ?_
  refine lv_iconst (v := 1) S.1 S.2.1 dL_change_6 (by decide) ?_
  obtain ⟨q3, hc1, h⟩ := d_b h
  refine dxrv (o := q3) (vx_runV (As := [.int p1, .int p2, .int p3, .int p4, .int 1]) (rest := []) S (kX11_change l g hst hc1) (cwV 5 S.2.2.2.2 gL_change_X11_change rfl rfl rfl ynX11_change ⟨Nat.le_of_ble_eq_true rfl, Nat.le_of_ble_eq_true rfl⟩) (dpV hE hP hS (ci := 11) rfl (dat12 k0)) rfl rfl hl.1 rfl (lv_room (Nat.le_of_ble_eq_true rfl)) dL_change_7 ⟨Nat.le_of_ble_eq_true rfl, Nat.le_of_ble_eq_true rfl⟩) hS (fun u4 q9 ce H locs eo hP hS h1 h2 h3 => ?_) (fun m2 H locs eo hP hS => ?_)
  · subst eo
    have h := d_s1 h
    obtain rfl := Option.some.inj h
    exact dxout rfl hnt hlk hP hS h1 h2 h3 (Nat.le_of_ble_eq_true rfl) (Nat.le_of_ble_eq_true rfl)
  · subst eo
    have h := d_s2 h
    refine lv_iconst (v := 1) S.1 S.2.1 dL_change_10 (by decide) ?_
    obtain rfl := Option.some.inj h
    exact dxti rfl S hr hlk hE hP hS rfl (Nat.le_of_ble_eq_true rfl) (Nat.le_of_ble_eq_true rfl) dL_change_11
theorem ynL_act : yL_act.cls ≠ "java/lang/invoke/MethodHandle" ∧ yL_act.cls ≠ "java/lang/invoke/VarHandle" ∧ (parseMethodDescriptor yL_act.desc).map (fun d => d.parameters.length) = some 6 := by decide +kernel
set_option maxRecDepth 20000 in
theorem ggL_act_L_band : GoodIn wsL_act wsL_band := goodIn_ca (goodIn_ca (goodIn_s _ [10, 11, 12, 13, 14, 15, 16, 17, 18, 19, 20, 21, 22, 23, 24, 25, 26, 27, 28, 29, 30, 31, 32, 33, 34, 35, 36, 37, 38, 39, 40, 41, 42, 43, 44, 45, 46, 47, 539, 540, 541, 542, 543, 544, 545, 546, 547, 548, 549, 550, 551, 552, 553, 554] (by decide +kernel) (by decide +kernel)) (goodIn_sub (fun _ h => List.mem_cons_of_mem _ (List.mem_append_left _ (List.mem_append_left _ (List.mem_append_right _ h)))) (by decide +kernel))) (goodIn_sub (fun _ h => List.mem_cons_of_mem _ (List.mem_append_left _ (List.mem_append_right _ h))) (by decide +kernel))
set_option maxRecDepth 20000 in
theorem gL_act_L_band : GoodIn wsL_act (va_wsS RL 25 yL_band wsL_band) := goodIn_app (goodIn_of _ (by decide +kernel)) ggL_act_L_band
set_option maxRecDepth 20000 in
theorem ggL_act_X11_legs : GoodIn wsL_act wsX11_legs := goodIn_ca (goodIn_ca (goodIn_s _ [51, 19, 52, 53, 54, 14, 55, 56, 57, 58, 37, 59, 43, 60, 61, 62, 63, 64, 25, 26, 27, 20, 21, 22, 23, 24, 65, 66, 67, 68, 44, 69, 70, 71, 72, 73, 74, 539, 540, 541, 542, 543, 544, 545, 546, 550, 551, 552, 553, 554] (by decide +kernel) (by decide +kernel)) (goodIn_sub (fun _ h => List.mem_cons_of_mem _ (List.mem_append_right _ h)) (by decide +kernel))) (goodIn_sub (fun _ h => List.mem_cons_of_mem _ (List.mem_append_left _ (List.mem_append_right _ h))) (by decide +kernel))
set_option maxRecDepth 20000 in
theorem gL_act_X11_legs : GoodIn wsL_act (wsV RL 30 RX11 yX11_legs wsX11_legs) := goodIn_app (goodIn_of _ (by decide +kernel)) ggL_act_X11_legs
set_option maxRecDepth 20000 in
theorem ggL_act_X11_ill : GoodIn wsL_act wsX11_ill := goodIn_ca (goodIn_s _ [78, 19, 52, 53, 54, 14, 55, 56, 57, 58, 37, 59, 43, 60, 61, 62, 63, 64, 25, 26, 27, 79, 80, 81, 82, 45, 69, 70, 83, 84, 85, 86, 46, 47, 539, 540, 541, 542, 543, 544, 545, 546, 550, 551, 552, 553, 554] (by decide +kernel) (by decide +kernel)) (goodIn_sub (fun _ h => List.mem_cons_of_mem _ (List.mem_append_right _ h)) (by decide +kernel))
set_option maxRecDepth 20000 in
theorem gL_act_X11_ill : GoodIn wsL_act (wsV RL 34 RX11 yX11_ill wsX11_ill) := goodIn_app (goodIn_of _ (by decide +kernel)) ggL_act_X11_ill
set_option maxRecDepth 20000 in
theorem ggL_act_L_alternate : GoodIn wsL_act wsL_alternate := goodIn_ca (goodIn_s _ [89, 90, 91, 92, 14, 93, 19, 60, 61, 62, 63, 64, 25, 26, 27, 52, 53, 54, 55, 56, 57, 58, 37, 59, 43, 94, 95, 96, 97, 46, 47, 539, 540, 541, 542, 543, 544, 545, 546, 550, 551, 552, 553, 554] (by decide +kernel) (by decide +kernel)) (goodIn_sub (fun _ h => List.mem_cons_of_mem _ (List.mem_append_right _ h)) (by decide +kernel))
set_option maxRecDepth 20000 in
theorem gL_act_L_alternate : GoodIn wsL_act (va_wsS RL 38 yL_alternate wsL_alternate) := goodIn_app (goodIn_of _ (by decide +kernel)) ggL_act_L_alternate
set_option maxRecDepth 20000 in
theorem ggL_act_X11_line : GoodIn wsL_act wsX11_line := goodIn_ca (goodIn_ca (goodIn_s _ [101, 23, 24, 18, 19, 102, 103, 14, 104, 25, 26, 27, 56, 57, 58, 37, 59, 43, 105, 106, 107, 31, 108, 109, 110, 111, 112, 113, 114, 115, 116, 117, 118, 119, 120, 121, 122, 69, 70, 123, 124, 125, 126, 16, 17, 127, 128, 129, 130, 131, 132, 133, 134, 135, 136, 137, 138, 28, 29, 30, 32, 33, 139, 140, 141, 142, 143, 144, 145, 146, 147, 148, 149, 150, 151, 152, 153, 154, 539, 540, 541, 542, 543, 544, 545, 546, 550, 551, 552, 553, 554, 547, 548, 549, 555, 556] (by decide +kernel) (by decide +kernel)) (goodIn_sub (fun _ h => List.mem_cons_of_mem _ (List.mem_append_left _ (List.mem_append_right _ h))) (by decide +kernel))) (goodIn_sub (fun _ h => List.mem_cons_of_mem _ (List.mem_append_left _ (List.mem_append_left _ (List.mem_append_right _ h)))) (by decide +kernel))
set_option maxRecDepth 20000 in
theorem gL_act_X11_line : GoodIn wsL_act (wsV RL 41 RX11 yX11_line wsX11_line) := goodIn_app (goodIn_of _ (by decide +kernel)) ggL_act_X11_line
set_option maxRecDepth 20000 in
theorem ggL_act_X11_block : GoodIn wsL_act wsX11_block := goodIn_ca (goodIn_ca (goodIn_s _ [158, 18, 19, 20, 21, 14, 22, 23, 24, 25, 26, 27, 56, 57, 58, 37, 59, 43, 159, 160, 161, 31, 162, 109, 163, 164, 165, 166, 114, 167, 110, 111, 112, 113, 115, 116, 117, 118, 119, 120, 121, 122, 69, 70, 123, 124, 125, 126, 16, 17, 127, 128, 129, 130, 131, 132, 133, 134, 135, 136, 137, 138, 103, 104, 28, 29, 30, 32, 33, 139, 140, 141, 142, 143, 144, 145, 146, 147, 148, 149, 150, 151, 152, 153, 154, 539, 540, 541, 542, 543, 544, 545, 546, 550, 551, 552, 553, 554, 547, 548, 549, 555, 556] (by decide +kernel) (by decide +kernel)) (goodIn_sub (fun _ h => List.mem_cons_of_mem _ (List.mem_append_left _ (List.mem_append_right _ h))) (by decide +kernel))) (goodIn_sub (fun _ h => List.mem_cons_of_mem _ (List.mem_append_left _ (List.mem_append_left _ (List.mem_append_right _ h)))) (by decide +kernel))
set_option maxRecDepth 20000 in
theorem gL_act_X11_block : GoodIn wsL_act (wsV RL 45 RX11 yX11_block wsX11_block) := goodIn_app (goodIn_of _ (by decide +kernel)) ggL_act_X11_block
set_option maxRecDepth 20000 in
theorem ggL_act_X11_wedge : GoodIn wsL_act wsX11_wedge := goodIn_ca (goodIn_ca (goodIn_s _ [171, 18, 19, 20, 21, 14, 22, 23, 24, 25, 26, 27, 56, 57, 58, 37, 59, 43, 172, 173, 174, 31, 175, 109, 110, 111, 112, 113, 114, 115, 163, 164, 165, 166, 167, 116, 117, 118, 119, 120, 121, 122, 69, 70, 123, 124, 125, 126, 16, 17, 127, 128, 129, 130, 131, 132, 133, 134, 135, 136, 137, 138, 103, 104, 28, 29, 30, 32, 33, 139, 140, 141, 142, 143, 144, 145, 146, 147, 148, 149, 150, 151, 152, 153, 154, 539, 540, 541, 542, 543, 544, 545, 546, 550, 551, 552, 553, 554, 547, 548, 549, 555, 556] (by decide +kernel) (by decide +kernel)) (goodIn_sub (fun _ h => List.mem_cons_of_mem _ (List.mem_append_left _ (List.mem_append_right _ h))) (by decide +kernel))) (goodIn_sub (fun _ h => List.mem_cons_of_mem _ (List.mem_append_left _ (List.mem_append_left _ (List.mem_append_right _ h)))) (by decide +kernel))
set_option maxRecDepth 20000 in
theorem gL_act_X11_wedge : GoodIn wsL_act (wsV RL 48 RX11 yX11_wedge wsX11_wedge) := goodIn_app (goodIn_of _ (by decide +kernel)) ggL_act_X11_wedge
set_option maxRecDepth 20000 in
theorem ggL_act_X11_part : GoodIn wsL_act wsX11_part := goodIn_ca (goodIn_ca (goodIn_ca (goodIn_s _ [179, 16, 17, 18, 180, 19, 28, 29, 30, 31, 32, 33, 60, 61, 14, 62, 63, 64, 25, 26, 27, 20, 21, 22, 23, 24, 181, 182, 183, 184, 185, 186, 187, 188, 189, 190, 191, 40, 41, 42, 192, 193, 194, 195, 196, 197, 198, 199, 200, 201, 202, 203, 204, 205, 206, 56, 57, 58, 37, 59, 43, 207, 208, 209, 210, 211, 212, 213, 214, 215, 216, 217, 144, 145, 146, 147, 109, 218, 219, 220, 221, 222, 223, 224, 225, 226, 227, 228, 149, 150, 119, 151, 152, 132, 133, 134, 121, 69, 70, 153, 136, 137, 138, 122, 154, 117, 118, 120, 229, 230, 231, 232, 233, 234, 235, 236, 237, 238, 239, 240, 241, 242, 243, 244, 245, 246, 247, 248, 249, 250, 251, 252, 253, 254, 255, 256, 257, 258, 259, 260, 261, 262, 263, 264, 265, 266, 267, 268, 269, 270, 271, 272, 273, 274, 275, 276, 277, 278, 279, 280, 281, 282, 283, 284, 285, 286, 287, 288, 289, 290, 291, 292, 293, 294, 295, 296, 539, 540, 541, 542, 543, 544, 545, 546, 547, 548, 549, 557, 558, 559, 560, 561, 562, 563, 564, 565, 566, 567, 550, 551, 552, 553, 554, 555, 556, 568, 569, 570, 571, 572, 573, 574, 575] (by decide +kernel) (by decide +kernel)) (goodIn_sub (fun _ h => List.mem_cons_of_mem _ (List.mem_append_left _ (List.mem_append_left _ (List.mem_append_right _ h)))) (by decide +kernel))) (goodIn_sub (fun _ h => List.mem_cons_of_mem _ (List.mem_append_right _ h)) (by decide +kernel))) (goodIn_sub (fun _ h => List.mem_cons_of_mem _ (List.mem_append_left _ (List.mem_append_right _ h))) (by decide +kernel))
set_option maxRecDepth 20000 in
theorem gL_act_X11_part : GoodIn wsL_act (wsV RL 52 RX11 yX11_part wsX11_part) := goodIn_app (goodIn_of _ (by decide +kernel)) ggL_act_X11_part
set_option maxRecDepth 20000 in
theorem ggL_act_L_change : GoodIn wsL_act wsL_change := goodIn_ca (goodIn_ca (goodIn_s _ [299, 300, 301, 302, 14, 303, 18, 180, 19, 304, 305, 306, 307, 181, 182, 183, 184, 185, 186, 60, 61, 62, 63, 64, 25, 26, 27, 28, 29, 30, 31, 32, 33, 20, 21, 22, 23, 24, 192, 193, 194, 195, 196, 197, 198, 199, 200, 201, 202, 203, 204, 205, 206, 56, 57, 58, 37, 59, 43, 207, 208, 209, 210, 211, 212, 213, 214, 215, 216, 217, 144, 145, 146, 147, 109, 218, 219, 220, 221, 222, 223, 224, 225, 226, 227, 228, 149, 150, 119, 151, 152, 132, 133, 134, 121, 69, 70, 153, 136, 137, 138, 122, 154, 117, 118, 120, 229, 230, 231, 232, 233, 234, 235, 236, 237, 238, 40, 41, 42, 239, 240, 241, 242, 243, 244, 245, 246, 247, 248, 249, 250, 251, 252, 253, 254, 255, 256, 257, 258, 259, 260, 261, 262, 263, 264, 265, 266, 267, 268, 269, 270, 271, 272, 273, 274, 275, 276, 277, 278, 279, 280, 281, 282, 283, 284, 285, 286, 287, 288, 289, 290, 291, 292, 293, 294, 295, 296, 539, 540, 541, 542, 543, 544, 545, 546, 557, 558, 559, 560, 547, 548, 549, 561, 562, 563, 564, 565, 566, 567, 550, 551, 552, 553, 554, 555, 556, 568, 569, 570, 571, 572, 573, 574, 575] (by decide +kernel) (by decide +kernel)) (goodIn_sub (fun _ h => List.mem_cons_of_mem _ (List.mem_append_right _ h)) (by decide +kernel))) (goodIn_sub (fun _ h => List.mem_cons_of_mem _ (List.mem_append_left _ (List.mem_append_right _ h))) (by decide +kernel))
set_option maxRecDepth 20000 in
theorem gL_act_L_change : GoodIn wsL_act (va_wsS RL 56 yL_change wsL_change) := goodIn_app (goodIn_of _ (by decide +kernel)) ggL_act_L_change
set_option maxRecDepth 20000 in
theorem ggL_act_X11_cut : GoodIn wsL_act wsX11_cut := goodIn_ca (goodIn_s _ [311, 16, 17, 180, 181, 182, 183, 184, 185, 186, 312, 313, 314, 315, 316, 317, 41, 318, 539, 540, 541, 542, 543, 544, 545, 546, 557, 558, 559, 560] (by decide +kernel) (by decide +kernel)) (goodIn_sub (fun _ h => List.mem_cons_of_mem _ (List.mem_append_left _ (List.mem_append_left _ (List.mem_append_right _ h)))) (by decide +kernel))
set_option maxRecDepth 20000 in
theorem gL_act_X11_cut : GoodIn wsL_act (wsV RL 59 RX11 yX11_cut wsX11_cut) := goodIn_app (goodIn_of _ (by decide +kernel)) ggL_act_X11_cut
set_option maxRecDepth 20000 in
theorem ggL_act_X11_place : GoodIn wsL_act wsX11_place := goodIn_ca (goodIn_s _ [322, 180, 304, 305, 306, 14, 307, 181, 182, 183, 184, 185, 186, 60, 61, 62, 63, 64, 25, 26, 27, 52, 53, 54, 55, 19, 56, 57, 58, 37, 59, 43, 192, 193, 194, 195, 196, 197, 323, 324, 325, 201, 326, 289, 69, 70, 539, 540, 541, 542, 543, 544, 545, 546, 557, 558, 559, 560, 550, 551, 552, 553, 554, 561, 562, 563, 564, 565, 566, 567] (by decide +kernel) (by decide +kernel)) (goodIn_sub (fun _ h => List.mem_cons_of_mem _ (List.mem_append_right _ h)) (by decide +kernel))
set_option maxRecDepth 20000 in
theorem gL_act_X11_place : GoodIn wsL_act (wsV RL 63 RX11 yX11_place wsX11_place) := goodIn_app (goodIn_of _ (by decide +kernel)) ggL_act_X11_place
set_option maxRecDepth 20000 in
theorem ggL_act_X11_walking : GoodIn wsL_act wsX11_walking := goodIn_ca (goodIn_s _ [330, 180, 19, 304, 305, 306, 14, 307, 181, 182, 183, 184, 185, 186, 60, 61, 62, 63, 64, 25, 26, 27, 192, 193, 194, 195, 196, 197, 56, 57, 58, 37, 59, 43, 331, 332, 333, 201, 334, 222, 227, 335, 252, 253, 119, 254, 121, 122, 69, 70, 255, 256, 539, 540, 541, 542, 543, 544, 545, 546, 557, 558, 559, 560, 550, 551, 552, 553, 554, 561, 562, 563, 564, 565, 566, 567, 555, 556] (by decide +kernel) (by decide +kernel)) (goodIn_sub (fun _ h => List.mem_cons_of_mem _ (List.mem_append_right _ h)) (by decide +kernel))
set_option maxRecDepth 20000 in
theorem gL_act_X11_walking : GoodIn wsL_act (wsV RL 66 RX11 yX11_walking wsX11_walking) := goodIn_app (goodIn_of _ (by decide +kernel)) ggL_act_X11_walking
set_option maxRecDepth 20000 in
theorem ggL_act_X11_at : GoodIn wsL_act wsX11_at := goodIn_ca (goodIn_ca (goodIn_s _ [339, 180, 304, 305, 306, 14, 307, 181, 182, 183, 184, 185, 186, 60, 61, 62, 63, 64, 25, 26, 27, 52, 53, 54, 55, 19, 56, 57, 58, 37, 59, 43, 192, 193, 194, 195, 196, 197, 340, 341, 342, 201, 343, 204, 20, 21, 22, 23, 24, 344, 345, 346, 347, 222, 227, 290, 132, 133, 119, 134, 121, 69, 70, 110, 111, 112, 113, 114, 115, 348, 349, 350, 351, 291, 136, 137, 138, 122, 539, 540, 541, 542, 543, 544, 545, 546, 557, 558, 559, 560, 550, 551, 552, 553, 554, 561, 562, 563, 564, 565, 566, 567, 555, 556] (by decide +kernel) (by decide +kernel)) (goodIn_sub (fun _ h => List.mem_cons_of_mem _ (List.mem_append_right _ h)) (by decide +kernel))) (goodIn_sub (fun _ h => List.mem_cons_of_mem _ (List.mem_append_left _ (List.mem_append_right _ h))) (by decide +kernel))
set_option maxRecDepth 20000 in
theorem gL_act_X11_at : GoodIn wsL_act (wsV RL 70 RX11 yX11_at wsX11_at) := goodIn_app (goodIn_of _ (by decide +kernel)) ggL_act_X11_at
set_option maxRecDepth 20000 in
theorem ggL_act_X11_fault : GoodIn wsL_act wsX11_fault := goodIn_ca (goodIn_ca (goodIn_s _ [355, 356, 180, 19, 304, 305, 306, 14, 307, 181, 182, 183, 184, 185, 186, 60, 61, 62, 63, 64, 25, 26, 27, 20, 21, 22, 23, 24, 192, 193, 194, 195, 196, 197, 357, 358, 359, 360, 361, 362, 363, 364, 57, 58, 37, 59, 43, 365, 366, 367, 368, 369, 370, 371, 372, 373, 374, 375, 376, 377, 378, 341, 342, 201, 343, 204, 379, 380, 381, 382, 383, 384, 385, 386, 387, 388, 389, 345, 346, 347, 222, 227, 290, 132, 133, 119, 134, 121, 69, 70, 110, 111, 112, 113, 114, 115, 390, 349, 350, 351, 291, 136, 137, 138, 122, 292, 117, 118, 120, 391, 84, 85, 86, 45, 46, 47, 392, 393, 394, 395, 205, 396, 397, 398, 399, 400, 66, 67, 68, 44, 401, 402, 403, 404, 405, 252, 253, 254, 255, 256, 406, 407, 408, 409, 410, 411, 412, 413, 414, 415, 416, 417, 418, 419, 420, 421, 422, 423, 424, 425, 426, 427, 428, 429, 430, 431, 432, 433, 434, 539, 540, 541, 542, 543, 544, 545, 546, 557, 558, 559, 560, 576, 577, 578, 579, 550, 551, 552, 553, 554, 580, 581, 582, 583, 561, 562, 563, 564, 565, 566, 567, 555, 556] (by decide +kernel) (by decide +kernel)) (goodIn_sub (fun _ h => List.mem_cons_of_mem _ (List.mem_append_right _ h)) (by decide +kernel))) (goodIn_sub (fun _ h => List.mem_cons_of_mem _ (List.mem_append_left _ (List.mem_append_right _ h))) (by decide +kernel))
set_option maxRecDepth 20000 in
theorem gL_act_X11_fault : GoodIn wsL_act (wsV RL 73 RX11 yX11_fault wsX11_fault) := goodIn_app (goodIn_of _ (by decide +kernel)) ggL_act_X11_fault
set_option maxRecDepth 20000 in
theorem ggL_act_X11_phase : GoodIn wsL_act wsX11_phase := goodIn_ca (goodIn_ca (goodIn_s _ [438, 180, 439, 19, 304, 305, 306, 14, 307, 181, 182, 183, 184, 185, 186, 60, 61, 62, 63, 64, 25, 26, 27, 192, 193, 194, 195, 196, 197, 340, 341, 342, 201, 343, 204, 20, 21, 22, 23, 24, 56, 57, 58, 37, 59, 43, 440, 386, 387, 388, 389, 345, 346, 347, 222, 227, 290, 132, 133, 119, 134, 121, 69, 70, 110, 111, 112, 113, 114, 115, 390, 349, 350, 351, 291, 136, 137, 138, 122, 292, 117, 118, 120, 441, 442, 443, 444, 445, 40, 41, 42, 446, 317, 318, 83, 84, 85, 86, 45, 46, 47, 447, 448, 449, 255, 256, 450, 451, 452, 453, 539, 540, 541, 542, 543, 544, 545, 546, 557, 558, 559, 560, 561, 562, 563, 564, 565, 566, 567, 550, 551, 552, 553, 554, 555, 556] (by decide +kernel) (by decide +kernel)) (goodIn_sub (fun _ h => List.mem_cons_of_mem _ (List.mem_append_right _ h)) (by decide +kernel))) (goodIn_sub (fun _ h => List.mem_cons_of_mem _ (List.mem_append_left _ (List.mem_append_right _ h))) (by decide +kernel))
set_option maxRecDepth 20000 in
theorem gL_act_X11_phase : GoodIn wsL_act (wsV RL 76 RX11 yX11_phase wsX11_phase) := goodIn_app (goodIn_of _ (by decide +kernel)) ggL_act_X11_phase
set_option maxRecDepth 20000 in
theorem ggL_act_X11_page : GoodIn wsL_act wsX11_page := goodIn_ca (goodIn_ca (goodIn_s _ [457, 180, 304, 305, 306, 14, 307, 181, 182, 183, 184, 185, 186, 60, 61, 62, 63, 64, 25, 26, 27, 52, 53, 54, 55, 19, 56, 57, 58, 37, 59, 43, 20, 21, 22, 23, 24, 192, 193, 194, 195, 196, 197, 458, 224, 225, 201, 226, 227, 447, 132, 133, 119, 134, 121, 69, 70, 459, 460, 461, 453, 110, 111, 112, 113, 114, 115, 448, 136, 137, 138, 122, 462, 463, 464, 539, 540, 541, 542, 543, 544, 545, 546, 557, 558, 559, 560, 550, 551, 552, 553, 554, 561, 562, 563, 564, 565, 566, 567, 555, 556] (by decide +kernel) (by decide +kernel)) (goodIn_sub (fun _ h => List.mem_cons_of_mem _ (List.mem_append_right _ h)) (by decide +kernel))) (goodIn_sub (fun _ h => List.mem_cons_of_mem _ (List.mem_append_left _ (List.mem_append_right _ h))) (by decide +kernel))
set_option maxRecDepth 20000 in
theorem gL_act_X11_page : GoodIn wsL_act (wsV RL 79 RX11 yX11_page wsX11_page) := goodIn_app (goodIn_of _ (by decide +kernel)) ggL_act_X11_page
set_option maxRecDepth 20000 in
theorem ggL_act_L_clock : GoodIn wsL_act wsL_clock := goodIn_ca (goodIn_s _ [467, 468, 469, 470, 14, 471, 472, 20, 21, 22, 23, 24, 25, 26, 27, 473, 474, 475, 476, 477, 478, 479, 539, 540, 541, 542, 543, 544, 545, 546, 584, 585, 586, 587] (by decide +kernel) (by decide +kernel)) (goodIn_sub (fun _ h => List.mem_cons_of_mem _ (List.mem_append_left _ (List.mem_append_right _ h))) (by decide +kernel))
set_option maxRecDepth 20000 in
theorem gL_act_L_clock : GoodIn wsL_act (va_wsS RL 82 yL_clock wsL_clock) := goodIn_app (goodIn_of _ (by decide +kernel)) ggL_act_L_clock
set_option maxRecDepth 20000 in
theorem ggL_act_X11_judge : GoodIn wsL_act wsX11_judge := goodIn_ca (goodIn_ca (goodIn_s _ [483, 472, 180, 60, 61, 14, 62, 63, 64, 25, 26, 27, 20, 21, 22, 23, 24, 484, 485, 486, 476, 487, 488, 489, 490, 491, 184, 492, 186, 212, 193, 194, 195, 196, 197, 493, 494, 495, 201, 496, 204, 205, 110, 111, 112, 113, 114, 115, 497, 498, 499, 500, 501, 502, 317, 41, 318, 503, 504, 505, 506, 478, 479, 539, 540, 541, 542, 543, 544, 545, 546, 584, 585, 586, 587, 557, 558, 559, 560, 561, 562, 563, 564, 565, 566, 567] (by decide +kernel) (by decide +kernel)) (goodIn_sub (fun _ h => List.mem_cons_of_mem _ (List.mem_append_right _ h)) (by decide +kernel))) (goodIn_sub (fun _ h => List.mem_cons_of_mem _ (List.mem_append_left _ (List.mem_append_right _ h))) (by decide +kernel))
set_option maxRecDepth 20000 in
theorem gL_act_X11_judge : GoodIn wsL_act (wsV RL 85 RX11 yX11_judge wsX11_judge) := goodIn_app (goodIn_of _ (by decide +kernel)) ggL_act_X11_judge
set_option maxRecDepth 20000 in
theorem ggL_act_X11_penalty : GoodIn wsL_act wsX11_penalty := goodIn_ca (goodIn_ca (goodIn_s _ [510, 472, 180, 60, 61, 14, 62, 63, 64, 25, 26, 27, 20, 21, 22, 23, 24, 511, 512, 513, 476, 514, 501, 489, 490, 491, 184, 492, 186, 212, 193, 194, 195, 196, 197, 493, 494, 495, 201, 496, 204, 205, 110, 111, 112, 113, 114, 115, 497, 498, 499, 500, 488, 502, 317, 41, 318, 503, 504, 505, 506, 478, 479, 539, 540, 541, 542, 543, 544, 545, 546, 584, 585, 586, 587, 557, 558, 559, 560, 561, 562, 563, 564, 565, 566, 567] (by decide +kernel) (by decide +kernel)) (goodIn_sub (fun _ h => List.mem_cons_of_mem _ (List.mem_append_right _ h)) (by decide +kernel))) (goodIn_sub (fun _ h => List.mem_cons_of_mem _ (List.mem_append_left _ (List.mem_append_right _ h))) (by decide +kernel))
set_option maxRecDepth 20000 in
theorem gL_act_X11_penalty : GoodIn wsL_act (wsV RL 88 RX11 yX11_penalty wsX11_penalty) := goodIn_app (goodIn_of _ (by decide +kernel)) ggL_act_X11_penalty
set_option maxRecDepth 20000 in
theorem ggL_act_X11_ranked : GoodIn wsL_act wsX11_ranked := goodIn_ca (goodIn_s _ [518, 472, 180, 20, 21, 14, 22, 23, 24, 25, 26, 27, 489, 490, 491, 184, 492, 186, 212, 193, 194, 195, 196, 197, 493, 494, 495, 201, 496, 204, 205, 110, 111, 112, 113, 114, 115, 519, 520, 521, 476, 522, 523, 524, 525, 526, 527, 498, 499, 500, 488, 501, 502, 317, 41, 318, 503, 504, 505, 506, 478, 479, 528, 529, 530, 531, 539, 540, 541, 542, 543, 544, 545, 546, 557, 558, 559, 560, 561, 562, 563, 564, 565, 566, 567, 584, 585, 586, 587] (by decide +kernel) (by decide +kernel)) (goodIn_sub (fun _ h => List.mem_cons_of_mem _ (List.mem_append_left _ (List.mem_append_right _ h))) (by decide +kernel))
set_option maxRecDepth 20000 in
theorem gL_act_X11_ranked : GoodIn wsL_act (wsV RL 91 RX11 yX11_ranked wsX11_ranked) := goodIn_app (goodIn_of _ (by decide +kernel)) ggL_act_X11_ranked
set_option maxRecDepth 20000 in
theorem ggL_act_X11_rehearse : GoodIn wsL_act wsX11_rehearse := goodIn_ca (goodIn_s _ [535, 20, 21, 14, 22, 23, 24, 25, 26, 27, 536, 537, 538, 453, 110, 111, 112, 113, 114, 115] (by decide +kernel) (by decide +kernel)) (goodIn_sub (fun _ h => List.mem_cons_of_mem _ (List.mem_append_left _ (List.mem_append_right _ h))) (by decide +kernel))
set_option maxRecDepth 20000 in
theorem gL_act_X11_rehearse : GoodIn wsL_act (wsV RL 95 RX11 yX11_rehearse wsX11_rehearse) := goodIn_app (goodIn_of _ (by decide +kernel)) ggL_act_X11_rehearse
theorem dL_act_0 : decode cL_act 0 = .ok (.iload_n 1, 1) := by decide +kernel
theorem dL_act_1 : decode cL_act 1 = .ok (.ifCond .ne 12, 3) := by decide +kernel
theorem dL_act_4 : decode cL_act 4 = .ok (.aload_n 0, 1) := by decide +kernel
theorem dL_act_5 : decode cL_act 5 = .ok (.iload_n 2, 1) := by decide +kernel
theorem dL_act_6 : decode cL_act 6 = .ok (.invokestatic 25, 3) := by decide +kernel
theorem dL_act_9 : decode cL_act 9 = .ok (.i2l, 1) := by decide +kernel
theorem dL_act_10 : decode cL_act 10 = .ok (.goto 369, 3) := by decide +kernel
theorem dL_act_13 : decode cL_act 13 = .ok (.iload_n 1, 1) := by decide +kernel
theorem dL_act_14 : decode cL_act 14 = .ok (.iconst 1, 1) := by decide +kernel
theorem dL_act_15 : decode cL_act 15 = .ok (.if_icmp .ne 13, 3) := by decide +kernel
theorem dL_act_18 : decode cL_act 18 = .ok (.aload_n 0, 1) := by decide +kernel
theorem dL_act_19 : decode cL_act 19 = .ok (.iload_n 2, 1) := by decide +kernel
theorem dL_act_20 : decode cL_act 20 = .ok (.iload_n 3, 1) := by decide +kernel
theorem dL_act_21 : decode cL_act 21 = .ok (.invokevirtual 30, 3) := by decide +kernel
theorem dL_act_24 : decode cL_act 24 = .ok (.i2l, 1) := by decide +kernel
theorem dL_act_25 : decode cL_act 25 = .ok (.goto 354, 3) := by decide +kernel
theorem dL_act_28 : decode cL_act 28 = .ok (.iload_n 1, 1) := by decide +kernel
theorem dL_act_29 : decode cL_act 29 = .ok (.iconst 2, 1) := by decide +kernel
theorem dL_act_30 : decode cL_act 30 = .ok (.if_icmp .ne 30, 3) := by decide +kernel
theorem dL_act_33 : decode cL_act 33 = .ok (.aload_n 0, 1) := by decide +kernel
theorem dL_act_34 : decode cL_act 34 = .ok (.iload_n 2, 1) := by decide +kernel
theorem dL_act_35 : decode cL_act 35 = .ok (.iload_n 3, 1) := by decide +kernel
theorem dL_act_36 : decode cL_act 36 = .ok (.iconst 1, 1) := by decide +kernel
theorem dL_act_37 : decode cL_act 37 = .ok (.if_icmp .ne 7, 3) := by decide +kernel
theorem dL_act_40 : decode cL_act 40 = .ok (.iconst 1, 1) := by decide +kernel
theorem dL_act_41 : decode cL_act 41 = .ok (.goto 4, 3) := by decide +kernel
theorem dL_act_44 : decode cL_act 44 = .ok (.iconst 0, 1) := by decide +kernel
theorem dL_act_45 : decode cL_act 45 = .ok (.invokevirtual 34, 3) := by decide +kernel
theorem dL_act_48 : decode cL_act 48 = .ok (.ifCond .eq 7, 3) := by decide +kernel
theorem dL_act_51 : decode cL_act 51 = .ok (.iconst 1, 1) := by decide +kernel
theorem dL_act_52 : decode cL_act 52 = .ok (.goto 4, 3) := by decide +kernel
theorem dL_act_55 : decode cL_act 55 = .ok (.iconst 0, 1) := by decide +kernel
theorem dL_act_56 : decode cL_act 56 = .ok (.i2l, 1) := by decide +kernel
theorem dL_act_57 : decode cL_act 57 = .ok (.goto 322, 3) := by decide +kernel
theorem dL_act_60 : decode cL_act 60 = .ok (.iload_n 1, 1) := by decide +kernel
theorem dL_act_61 : decode cL_act 61 = .ok (.iconst 3, 1) := by decide +kernel
theorem dL_act_62 : decode cL_act 62 = .ok (.if_icmp .ne 24, 3) := by decide +kernel
theorem dL_act_65 : decode cL_act 65 = .ok (.aload_n 0, 1) := by decide +kernel
theorem dL_act_66 : decode cL_act 66 = .ok (.iload_n 2, 1) := by decide +kernel
theorem dL_act_67 : decode cL_act 67 = .ok (.iload_n 3, 1) := by decide +kernel
theorem dL_act_68 : decode cL_act 68 = .ok (.iload 4, 2) := by decide +kernel
theorem dL_act_70 : decode cL_act 70 = .ok (.iconst 1, 1) := by decide +kernel
theorem dL_act_71 : decode cL_act 71 = .ok (.if_icmp .ne 7, 3) := by decide +kernel
theorem dL_act_74 : decode cL_act 74 = .ok (.iconst 1, 1) := by decide +kernel
theorem dL_act_75 : decode cL_act 75 = .ok (.goto 4, 3) := by decide +kernel
theorem dL_act_78 : decode cL_act 78 = .ok (.iconst 0, 1) := by decide +kernel
theorem dL_act_79 : decode cL_act 79 = .ok (.invokestatic 38, 3) := by decide +kernel
theorem dL_act_82 : decode cL_act 82 = .ok (.i2l, 1) := by decide +kernel
theorem dL_act_83 : decode cL_act 83 = .ok (.goto 296, 3) := by decide +kernel
theorem dL_act_86 : decode cL_act 86 = .ok (.iload_n 1, 1) := by decide +kernel
theorem dL_act_87 : decode cL_act 87 = .ok (.iconst 4, 1) := by decide +kernel
theorem dL_act_88 : decode cL_act 88 = .ok (.if_icmp .ne 17, 3) := by decide +kernel
theorem dL_act_91 : decode cL_act 91 = .ok (.aload_n 0, 1) := by decide +kernel
theorem dL_act_92 : decode cL_act 92 = .ok (.iload_n 2, 1) := by decide +kernel
theorem dL_act_93 : decode cL_act 93 = .ok (.iload_n 3, 1) := by decide +kernel
theorem dL_act_94 : decode cL_act 94 = .ok (.iload 4, 2) := by decide +kernel
theorem dL_act_96 : decode cL_act 96 = .ok (.iload 5, 2) := by decide +kernel
theorem dL_act_98 : decode cL_act 98 = .ok (.invokevirtual 41, 3) := by decide +kernel
theorem dL_act_101 : decode cL_act 101 = .ok (.i2l, 1) := by decide +kernel
theorem dL_act_102 : decode cL_act 102 = .ok (.goto 277, 3) := by decide +kernel
theorem dL_act_105 : decode cL_act 105 = .ok (.iload_n 1, 1) := by decide +kernel
theorem dL_act_106 : decode cL_act 106 = .ok (.iconst 5, 1) := by decide +kernel
theorem dL_act_107 : decode cL_act 107 = .ok (.if_icmp .ne 17, 3) := by decide +kernel
theorem dL_act_110 : decode cL_act 110 = .ok (.aload_n 0, 1) := by decide +kernel
theorem dL_act_111 : decode cL_act 111 = .ok (.iload_n 2, 1) := by decide +kernel
theorem dL_act_112 : decode cL_act 112 = .ok (.iload_n 3, 1) := by decide +kernel
theorem dL_act_113 : decode cL_act 113 = .ok (.iload 4, 2) := by decide +kernel
theorem dL_act_115 : decode cL_act 115 = .ok (.iload 5, 2) := by decide +kernel
theorem dL_act_117 : decode cL_act 117 = .ok (.invokevirtual 45, 3) := by decide +kernel
theorem dL_act_120 : decode cL_act 120 = .ok (.i2l, 1) := by decide +kernel
theorem dL_act_121 : decode cL_act 121 = .ok (.goto 258, 3) := by decide +kernel
theorem dL_act_124 : decode cL_act 124 = .ok (.iload_n 1, 1) := by decide +kernel
theorem dL_act_125 : decode cL_act 125 = .ok (.bipush 6, 2) := by decide +kernel
theorem dL_act_127 : decode cL_act 127 = .ok (.if_icmp .ne 15, 3) := by decide +kernel
theorem dL_act_130 : decode cL_act 130 = .ok (.aload_n 0, 1) := by decide +kernel
theorem dL_act_131 : decode cL_act 131 = .ok (.iload_n 2, 1) := by decide +kernel
theorem dL_act_132 : decode cL_act 132 = .ok (.iload_n 3, 1) := by decide +kernel
theorem dL_act_133 : decode cL_act 133 = .ok (.iload 4, 2) := by decide +kernel
theorem dL_act_135 : decode cL_act 135 = .ok (.invokevirtual 48, 3) := by decide +kernel
theorem dL_act_138 : decode cL_act 138 = .ok (.i2l, 1) := by decide +kernel
theorem dL_act_139 : decode cL_act 139 = .ok (.goto 240, 3) := by decide +kernel
theorem dL_act_142 : decode cL_act 142 = .ok (.iload_n 1, 1) := by decide +kernel
theorem dL_act_143 : decode cL_act 143 = .ok (.bipush 7, 2) := by decide +kernel
theorem dL_act_145 : decode cL_act 145 = .ok (.if_icmp .ne 26, 3) := by decide +kernel
theorem dL_act_148 : decode cL_act 148 = .ok (.aload_n 0, 1) := by decide +kernel
theorem dL_act_149 : decode cL_act 149 = .ok (.iload_n 2, 1) := by decide +kernel
theorem dL_act_150 : decode cL_act 150 = .ok (.iload_n 3, 1) := by decide +kernel
theorem dL_act_151 : decode cL_act 151 = .ok (.iload 4, 2) := by decide +kernel
theorem dL_act_153 : decode cL_act 153 = .ok (.iload 5, 2) := by decide +kernel
theorem dL_act_155 : decode cL_act 155 = .ok (.iconst 1, 1) := by decide +kernel
theorem dL_act_156 : decode cL_act 156 = .ok (.if_icmp .ne 7, 3) := by decide +kernel
theorem dL_act_159 : decode cL_act 159 = .ok (.iconst 1, 1) := by decide +kernel
theorem dL_act_160 : decode cL_act 160 = .ok (.goto 4, 3) := by decide +kernel
theorem dL_act_163 : decode cL_act 163 = .ok (.iconst 0, 1) := by decide +kernel
theorem dL_act_164 : decode cL_act 164 = .ok (.invokevirtual 52, 3) := by decide +kernel
theorem dL_act_167 : decode cL_act 167 = .ok (.i2l, 1) := by decide +kernel
theorem dL_act_168 : decode cL_act 168 = .ok (.goto 211, 3) := by decide +kernel
theorem dL_act_171 : decode cL_act 171 = .ok (.iload_n 1, 1) := by decide +kernel
theorem dL_act_172 : decode cL_act 172 = .ok (.bipush 8, 2) := by decide +kernel
theorem dL_act_174 : decode cL_act 174 = .ok (.if_icmp .ne 17, 3) := by decide +kernel
theorem dL_act_177 : decode cL_act 177 = .ok (.aload_n 0, 1) := by decide +kernel
theorem dL_act_178 : decode cL_act 178 = .ok (.iload_n 2, 1) := by decide +kernel
theorem dL_act_179 : decode cL_act 179 = .ok (.iload_n 3, 1) := by decide +kernel
theorem dL_act_180 : decode cL_act 180 = .ok (.iload 4, 2) := by decide +kernel
theorem dL_act_182 : decode cL_act 182 = .ok (.iload 5, 2) := by decide +kernel
theorem dL_act_184 : decode cL_act 184 = .ok (.invokestatic 56, 3) := by decide +kernel
theorem dL_act_187 : decode cL_act 187 = .ok (.i2l, 1) := by decide +kernel
theorem dL_act_188 : decode cL_act 188 = .ok (.goto 191, 3) := by decide +kernel
theorem dL_act_191 : decode cL_act 191 = .ok (.iload_n 1, 1) := by decide +kernel
theorem dL_act_192 : decode cL_act 192 = .ok (.bipush 9, 2) := by decide +kernel
theorem dL_act_194 : decode cL_act 194 = .ok (.if_icmp .ne 11, 3) := by decide +kernel
theorem dL_act_197 : decode cL_act 197 = .ok (.aload_n 0, 1) := by decide +kernel
theorem dL_act_198 : decode cL_act 198 = .ok (.invokevirtual 59, 3) := by decide +kernel
theorem dL_act_201 : decode cL_act 201 = .ok (.i2l, 1) := by decide +kernel
theorem dL_act_202 : decode cL_act 202 = .ok (.goto 177, 3) := by decide +kernel
theorem dL_act_205 : decode cL_act 205 = .ok (.iload_n 1, 1) := by decide +kernel
theorem dL_act_206 : decode cL_act 206 = .ok (.bipush 10, 2) := by decide +kernel
theorem dL_act_208 : decode cL_act 208 = .ok (.if_icmp .ne 13, 3) := by decide +kernel
theorem dL_act_211 : decode cL_act 211 = .ok (.aload_n 0, 1) := by decide +kernel
theorem dL_act_212 : decode cL_act 212 = .ok (.iload_n 2, 1) := by decide +kernel
theorem dL_act_213 : decode cL_act 213 = .ok (.iload_n 3, 1) := by decide +kernel
theorem dL_act_214 : decode cL_act 214 = .ok (.invokevirtual 63, 3) := by decide +kernel
theorem dL_act_217 : decode cL_act 217 = .ok (.i2l, 1) := by decide +kernel
theorem dL_act_218 : decode cL_act 218 = .ok (.goto 161, 3) := by decide +kernel
theorem dL_act_221 : decode cL_act 221 = .ok (.iload_n 1, 1) := by decide +kernel
theorem dL_act_222 : decode cL_act 222 = .ok (.bipush 11, 2) := by decide +kernel
theorem dL_act_224 : decode cL_act 224 = .ok (.if_icmp .ne 11, 3) := by decide +kernel
theorem dL_act_227 : decode cL_act 227 = .ok (.aload_n 0, 1) := by decide +kernel
theorem dL_act_228 : decode cL_act 228 = .ok (.iload_n 2, 1) := by decide +kernel
theorem dL_act_229 : decode cL_act 229 = .ok (.invokevirtual 66, 3) := by decide +kernel
theorem dL_act_232 : decode cL_act 232 = .ok (.goto 147, 3) := by decide +kernel
theorem dL_act_235 : decode cL_act 235 = .ok (.iload_n 1, 1) := by decide +kernel
theorem dL_act_236 : decode cL_act 236 = .ok (.bipush 12, 2) := by decide +kernel
theorem dL_act_238 : decode cL_act 238 = .ok (.if_icmp .ne 15, 3) := by decide +kernel
theorem dL_act_241 : decode cL_act 241 = .ok (.aload_n 0, 1) := by decide +kernel
theorem dL_act_242 : decode cL_act 242 = .ok (.iload_n 2, 1) := by decide +kernel
theorem dL_act_243 : decode cL_act 243 = .ok (.iload_n 3, 1) := by decide +kernel
theorem dL_act_244 : decode cL_act 244 = .ok (.iload 4, 2) := by decide +kernel
theorem dL_act_246 : decode cL_act 246 = .ok (.invokevirtual 70, 3) := by decide +kernel
theorem dL_act_249 : decode cL_act 249 = .ok (.i2l, 1) := by decide +kernel
theorem dL_act_250 : decode cL_act 250 = .ok (.goto 129, 3) := by decide +kernel
theorem dL_act_253 : decode cL_act 253 = .ok (.iload_n 1, 1) := by decide +kernel
theorem dL_act_254 : decode cL_act 254 = .ok (.bipush 13, 2) := by decide +kernel
theorem dL_act_256 : decode cL_act 256 = .ok (.if_icmp .ne 13, 3) := by decide +kernel
theorem dL_act_259 : decode cL_act 259 = .ok (.aload_n 0, 1) := by decide +kernel
theorem dL_act_260 : decode cL_act 260 = .ok (.iload_n 2, 1) := by decide +kernel
theorem dL_act_261 : decode cL_act 261 = .ok (.iload_n 3, 1) := by decide +kernel
theorem dL_act_262 : decode cL_act 262 = .ok (.invokevirtual 73, 3) := by decide +kernel
theorem dL_act_265 : decode cL_act 265 = .ok (.i2l, 1) := by decide +kernel
theorem dL_act_266 : decode cL_act 266 = .ok (.goto 113, 3) := by decide +kernel
theorem dL_act_269 : decode cL_act 269 = .ok (.iload_n 1, 1) := by decide +kernel
theorem dL_act_270 : decode cL_act 270 = .ok (.bipush 14, 2) := by decide +kernel
theorem dL_act_272 : decode cL_act 272 = .ok (.if_icmp .ne 17, 3) := by decide +kernel
theorem dL_act_275 : decode cL_act 275 = .ok (.aload_n 0, 1) := by decide +kernel
theorem dL_act_276 : decode cL_act 276 = .ok (.iload_n 2, 1) := by decide +kernel
theorem dL_act_277 : decode cL_act 277 = .ok (.iload_n 3, 1) := by decide +kernel
theorem dL_act_278 : decode cL_act 278 = .ok (.iload 4, 2) := by decide +kernel
theorem dL_act_280 : decode cL_act 280 = .ok (.iload 5, 2) := by decide +kernel
theorem dL_act_282 : decode cL_act 282 = .ok (.invokevirtual 76, 3) := by decide +kernel
theorem dL_act_285 : decode cL_act 285 = .ok (.i2l, 1) := by decide +kernel
theorem dL_act_286 : decode cL_act 286 = .ok (.goto 93, 3) := by decide +kernel
theorem dL_act_289 : decode cL_act 289 = .ok (.iload_n 1, 1) := by decide +kernel
theorem dL_act_290 : decode cL_act 290 = .ok (.bipush 15, 2) := by decide +kernel
theorem dL_act_292 : decode cL_act 292 = .ok (.if_icmp .ne 15, 3) := by decide +kernel
theorem dL_act_295 : decode cL_act 295 = .ok (.aload_n 0, 1) := by decide +kernel
theorem dL_act_296 : decode cL_act 296 = .ok (.iload_n 2, 1) := by decide +kernel
theorem dL_act_297 : decode cL_act 297 = .ok (.iload_n 3, 1) := by decide +kernel
theorem dL_act_298 : decode cL_act 298 = .ok (.iload 4, 2) := by decide +kernel
theorem dL_act_300 : decode cL_act 300 = .ok (.invokevirtual 79, 3) := by decide +kernel
theorem dL_act_303 : decode cL_act 303 = .ok (.i2l, 1) := by decide +kernel
theorem dL_act_304 : decode cL_act 304 = .ok (.goto 75, 3) := by decide +kernel
theorem dL_act_307 : decode cL_act 307 = .ok (.iload_n 1, 1) := by decide +kernel
theorem dL_act_308 : decode cL_act 308 = .ok (.bipush 16, 2) := by decide +kernel
theorem dL_act_310 : decode cL_act 310 = .ok (.if_icmp .ne 13, 3) := by decide +kernel
theorem dL_act_313 : decode cL_act 313 = .ok (.aload_n 0, 1) := by decide +kernel
theorem dL_act_314 : decode cL_act 314 = .ok (.iload_n 2, 1) := by decide +kernel
theorem dL_act_315 : decode cL_act 315 = .ok (.iload_n 3, 1) := by decide +kernel
theorem dL_act_316 : decode cL_act 316 = .ok (.invokestatic 82, 3) := by decide +kernel
theorem dL_act_319 : decode cL_act 319 = .ok (.i2l, 1) := by decide +kernel
theorem dL_act_320 : decode cL_act 320 = .ok (.goto 59, 3) := by decide +kernel
theorem dL_act_323 : decode cL_act 323 = .ok (.iload_n 1, 1) := by decide +kernel
theorem dL_act_324 : decode cL_act 324 = .ok (.bipush 17, 2) := by decide +kernel
theorem dL_act_326 : decode cL_act 326 = .ok (.if_icmp .ne 15, 3) := by decide +kernel
theorem dL_act_329 : decode cL_act 329 = .ok (.aload_n 0, 1) := by decide +kernel
theorem dL_act_330 : decode cL_act 330 = .ok (.iload_n 2, 1) := by decide +kernel
theorem dL_act_331 : decode cL_act 331 = .ok (.iload_n 3, 1) := by decide +kernel
theorem dL_act_332 : decode cL_act 332 = .ok (.iload 4, 2) := by decide +kernel
theorem dL_act_334 : decode cL_act 334 = .ok (.invokevirtual 85, 3) := by decide +kernel
theorem dL_act_337 : decode cL_act 337 = .ok (.i2l, 1) := by decide +kernel
theorem dL_act_338 : decode cL_act 338 = .ok (.goto 41, 3) := by decide +kernel
theorem dL_act_341 : decode cL_act 341 = .ok (.iload_n 1, 1) := by decide +kernel
theorem dL_act_342 : decode cL_act 342 = .ok (.bipush 18, 2) := by decide +kernel
theorem dL_act_344 : decode cL_act 344 = .ok (.if_icmp .ne 13, 3) := by decide +kernel
theorem dL_act_347 : decode cL_act 347 = .ok (.aload_n 0, 1) := by decide +kernel
theorem dL_act_348 : decode cL_act 348 = .ok (.iload_n 2, 1) := by decide +kernel
theorem dL_act_349 : decode cL_act 349 = .ok (.iload_n 3, 1) := by decide +kernel
theorem dL_act_350 : decode cL_act 350 = .ok (.invokevirtual 88, 3) := by decide +kernel
theorem dL_act_353 : decode cL_act 353 = .ok (.i2l, 1) := by decide +kernel
theorem dL_act_354 : decode cL_act 354 = .ok (.goto 25, 3) := by decide +kernel
theorem dL_act_357 : decode cL_act 357 = .ok (.iload_n 1, 1) := by decide +kernel
theorem dL_act_358 : decode cL_act 358 = .ok (.bipush 19, 2) := by decide +kernel
theorem dL_act_360 : decode cL_act 360 = .ok (.if_icmp .ne 12, 3) := by decide +kernel
theorem dL_act_363 : decode cL_act 363 = .ok (.aload_n 0, 1) := by decide +kernel
theorem dL_act_364 : decode cL_act 364 = .ok (.iload_n 2, 1) := by decide +kernel
theorem dL_act_365 : decode cL_act 365 = .ok (.invokevirtual 91, 3) := by decide +kernel
theorem dL_act_368 : decode cL_act 368 = .ok (.i2l, 1) := by decide +kernel
theorem dL_act_369 : decode cL_act 369 = .ok (.goto 10, 3) := by decide +kernel
theorem dL_act_372 : decode cL_act 372 = .ok (.aload_n 0, 1) := by decide +kernel
theorem dL_act_373 : decode cL_act 373 = .ok (.iload_n 2, 1) := by decide +kernel
theorem dL_act_374 : decode cL_act 374 = .ok (.iload_n 3, 1) := by decide +kernel
theorem dL_act_375 : decode cL_act 375 = .ok (.invokevirtual 95, 3) := by decide +kernel
theorem dL_act_378 : decode cL_act 378 = .ok (.i2l, 1) := by decide +kernel
theorem dL_act_379 : decode cL_act 379 = .ok (.lreturn, 1) := by decide +kernel
theorem dL_act_380 : decode cL_act 380 = .ok (.astore 6, 2) := by decide +kernel
theorem dL_act_382 : decode cL_act 382 = .ok (.ldc2_w 100, 3) := by decide +kernel
theorem dL_act_385 : decode cL_act 385 = .ok (.lreturn, 1) := by decide +kernel
theorem dL_act_386 : decode cL_act 386 = .ok (.astore 6, 2) := by decide +kernel
theorem dL_act_388 : decode cL_act 388 = .ok (.ldc2_w 104, 3) := by decide +kernel
theorem dL_act_391 : decode cL_act 391 = .ok (.lreturn, 1) := by decide +kernel
theorem dL_act_392 : decode cL_act 392 = .ok (.astore 6, 2) := by decide +kernel
theorem dL_act_394 : decode cL_act 394 = .ok (.ldc2_w 108, 3) := by decide +kernel
theorem dL_act_397 : decode cL_act 397 = .ok (.lreturn, 1) := by decide +kernel
def fL_act (m : dM) (p0 : Nat) (p1 : Int32) (p2 : Int32) (p3 : Int32) (p4 : Int32) (p5 : Int32) : Option (Int64 × dM) := dg (dkg p0 12) (if p1 = 0 then (fL_band m p0 p2).bind (fun q => dS q (fun x => dP2 x (fun kx mx => if kx = 3 then some ((-71), mx) else if kx = 1 then some ((-72), mx) else if kx = 2 then some ((-73), mx) else none)) (fun q => dP2 q (fun v96 m94 => some (Int32.toInt64 v96, m94)))) else if p1 = 1 then (fX11_legs m p0 p2 p3).bind (fun q => dS q (fun x => dP2 x (fun kx mx => if kx = 3 then some ((-71), mx) else if kx = 1 then some ((-72), mx) else if kx = 2 then some ((-73), mx) else none)) (fun q => dP2 q (fun v92 m90 => some (Int32.toInt64 v92, m90)))) else if p1 = 2 then if p3 = 1 then (fX11_ill m p0 p2 1).bind (fun q => dS q (fun x => dP2 x (fun kx mx => if kx = 3 then some ((-71), mx) else if kx = 1 then some ((-72), mx) else if kx = 2 then some ((-73), mx) else none)) (fun q => dP2 q (fun v88 m86 => if v88 = 0 then some (Int32.toInt64 0, m86) else some (Int32.toInt64 1, m86)))) else (fX11_ill m p0 p2 0).bind (fun q => dS q (fun x => dP2 x (fun kx mx => if kx = 3 then some ((-71), mx) else if kx = 1 then some ((-72), mx) else if kx = 2 then some ((-73), mx) else none)) (fun q => dP2 q (fun v84 m82 => if v84 = 0 then some (Int32.toInt64 0, m82) else some (Int32.toInt64 1, m82)))) else if p1 = 3 then if p4 = 1 then (fL_alternate m p0 p2 p3 1).bind (fun q => dS q (fun x => dP2 x (fun kx mx => if kx = 3 then some ((-71), mx) else if kx = 1 then some ((-72), mx) else if kx = 2 then some ((-73), mx) else none)) (fun q => dP2 q (fun v80 m78 => some (Int32.toInt64 v80, m78)))) else (fL_alternate m p0 p2 p3 0).bind (fun q => dS q (fun x => dP2 x (fun kx mx => if kx = 3 then some ((-71), mx) else if kx = 1 then some ((-72), mx) else if kx = 2 then some ((-73), mx) else none)) (fun q => dP2 q (fun v76 m74 => some (Int32.toInt64 v76, m74)))) else if p1 = 4 then (fX11_line m p0 p2 p3 p4 p5).bind (fun q => dS q (fun x => dP2 x (fun kx mx => if kx = 3 then some ((-71), mx) else if kx = 1 then some ((-72), mx) else if kx = 2 then some ((-73), mx) else none)) (fun q => dP2 q (fun v72 m70 => some (Int32.toInt64 v72, m70)))) else if p1 = 5 then (fX11_block m p0 p2 p3 p4 p5).bind (fun q => dS q (fun x => dP2 x (fun kx mx => if kx = 3 then some ((-71), mx) else if kx = 1 then some ((-72), mx) else if kx = 2 then some ((-73), mx) else none)) (fun q => dP2 q (fun v68 m66 => some (Int32.toInt64 v68, m66)))) else if p1 = 6 then (fX11_wedge m p0 p2 p3 p4).bind (fun q => dS q (fun x => dP2 x (fun kx mx => if kx = 3 then some ((-71), mx) else if kx = 1 then some ((-72), mx) else if kx = 2 then some ((-73), mx) else none)) (fun q => dP2 q (fun v64 m62 => some (Int32.toInt64 v64, m62)))) else if p1 = 7 then if p5 = 1 then (fX11_part m p0 p2 p3 p4 1).bind (fun q => dS q (fun x => dP2 x (fun kx mx => if kx = 3 then some ((-71), mx) else if kx = 1 then some ((-72), mx) else if kx = 2 then some ((-73), mx) else none)) (fun q => dP2 q (fun v60 m58 => some (Int32.toInt64 v60, m58)))) else (fX11_part m p0 p2 p3 p4 0).bind (fun q => dS q (fun x => dP2 x (fun kx mx => if kx = 3 then some ((-71), mx) else if kx = 1 then some ((-72), mx) else if kx = 2 then some ((-73), mx) else none)) (fun q => dP2 q (fun v56 m54 => some (Int32.toInt64 v56, m54)))) else if p1 = 8 then (fL_change m p0 p2 p3 p4 p5).bind (fun q => dS q (fun x => dP2 x (fun kx mx => if kx = 3 then some ((-71), mx) else if kx = 1 then some ((-72), mx) else if kx = 2 then some ((-73), mx) else none)) (fun q => dP2 q (fun v52 m50 => some (Int32.toInt64 v52, m50)))) else if p1 = 9 then (fX11_cut m p0).bind (fun q => dS q (fun x => dP2 x (fun kx mx => if kx = 3 then some ((-71), mx) else if kx = 1 then some ((-72), mx) else if kx = 2 then some ((-73), mx) else none)) (fun q => dP2 q (fun v48 m46 => some (Int32.toInt64 v48, m46)))) else if p1 = 10 then (fX11_place m p0 p2 p3).bind (fun q => dS q (fun x => dP2 x (fun kx mx => if kx = 3 then some ((-71), mx) else if kx = 1 then some ((-72), mx) else if kx = 2 then some ((-73), mx) else none)) (fun q => dP2 q (fun v44 m42 => some (Int32.toInt64 v44, m42)))) else if p1 = 11 then (fX11_walking m p0 p2).bind (fun q => dS q (fun x => dP2 x (fun kx mx => if kx = 3 then some ((-71), mx) else if kx = 1 then some ((-72), mx) else if kx = 2 then some ((-73), mx) else none)) (fun q => dP2 q (fun v40 m38 => some (v40, m38)))) else if p1 = 12 then (fX11_at m p0 p2 p3 p4).bind (fun q => dS q (fun x => dP2 x (fun kx mx => if kx = 3 then some ((-71), mx) else if kx = 1 then some ((-72), mx) else if kx = 2 then some ((-73), mx) else none)) (fun q => dP2 q (fun v36 m34 => some (Int32.toInt64 v36, m34)))) else if p1 = 13 then (fX11_fault m p0 p2 p3).bind (fun q => dS q (fun x => dP2 x (fun kx mx => if kx = 3 then some ((-71), mx) else if kx = 1 then some ((-72), mx) else if kx = 2 then some ((-73), mx) else none)) (fun q => dP2 q (fun v32 m30 => some (Int32.toInt64 v32, m30)))) else if p1 = 14 then (fX11_phase m p0 p2 p3 p4 p5).bind (fun q => dS q (fun x => dP2 x (fun kx mx => if kx = 3 then some ((-71), mx) else if kx = 1 then some ((-72), mx) else if kx = 2 then some ((-73), mx) else none)) (fun q => dP2 q (fun v28 m26 => some (Int32.toInt64 v28, m26)))) else if p1 = 15 then (fX11_page m p0 p2 p3 p4).bind (fun q => dS q (fun x => dP2 x (fun kx mx => if kx = 3 then some ((-71), mx) else if kx = 1 then some ((-72), mx) else if kx = 2 then some ((-73), mx) else none)) (fun q => dP2 q (fun v24 m22 => some (Int32.toInt64 v24, m22)))) else if p1 = 16 then (fL_clock m p0 p2 p3).bind (fun q => dS q (fun x => dP2 x (fun kx mx => if kx = 3 then some ((-71), mx) else if kx = 1 then some ((-72), mx) else if kx = 2 then some ((-73), mx) else none)) (fun q => dP2 q (fun v20 m18 => some (Int32.toInt64 v20, m18)))) else if p1 = 17 then (fX11_judge m p0 p2 p3 p4).bind (fun q => dS q (fun x => dP2 x (fun kx mx => if kx = 3 then some ((-71), mx) else if kx = 1 then some ((-72), mx) else if kx = 2 then some ((-73), mx) else none)) (fun q => dP2 q (fun v16 m14 => some (Int32.toInt64 v16, m14)))) else if p1 = 18 then (fX11_penalty m p0 p2 p3).bind (fun q => dS q (fun x => dP2 x (fun kx mx => if kx = 3 then some ((-71), mx) else if kx = 1 then some ((-72), mx) else if kx = 2 then some ((-73), mx) else none)) (fun q => dP2 q (fun v12 m10 => some (Int32.toInt64 v12, m10)))) else if p1 = 19 then (fX11_ranked m p0 p2).bind (fun q => dS q (fun x => dP2 x (fun kx mx => if kx = 3 then some ((-71), mx) else if kx = 1 then some ((-72), mx) else if kx = 2 then some ((-73), mx) else none)) (fun q => dP2 q (fun v8 m6 => some (Int32.toInt64 v8, m6)))) else (fX11_rehearse m p0 p2 p3).bind (fun q => dS q (fun x => dP2 x (fun kx mx => if kx = 3 then some ((-71), mx) else if kx = 1 then some ((-72), mx) else if kx = 2 then some ((-73), mx) else none)) (fun q => dP2 q (fun v4 m2 => some (Int32.toInt64 v4, m2)))))
set_option maxHeartbeats 4000000 in
set_option maxRecDepth 100000 in
theorem kL_act (l : Launch) (g : dG) (hst : l.stackTraces = false) {m : dM} {p0 : Nat} {p1 : Int32} {p2 : Int32} {p3 : Int32} {p4 : Int32} {p5 : Int32} {r0 : Int64} {m0 : dM} (h : fL_act m p0 p1 p2 p3 p4 p5 = some (r0, m0)) : dLJet l g yL_act wsL_act 10 190 4 [.ref (dad g p0), .int p1, .int p2, .int p3, .int p4, .int p5] m r0 m0 := by
  refine dLof (cc := cL_act) (maxL := 7) (ret := (some .long)) (hh := [(0, 379, 380, 98), (0, 379, 386, 102), (0, 379, 392, 106)]) _ (by decide) rfl (Nat.le_of_ble_eq_true rfl) ?_
  intro p e s mth below meth c S hr hlk htab hE H ls hP hS hl
  have S : CallFix p mth c cL_act 7 s _ wsL_act RL := S
  have hl : lv_has ls 7 [(0, .ref (dad g p0)), (1, .int p1), (2, .int p2), (3, .int p3), (4, .int p4), (5, .int p5)] := hl
  obtain ⟨locs, hlocs⟩ : ∃ z : List Loc, z = [] := ⟨_, rfl⟩
  rw [← hlocs] at hS ⊢
  unfold fL_act at h
  obtain ⟨k0, h⟩ := d_g h
  have k0 := d_k k0
  refine lv_iload_n S.1 S.2.1 dL_act_0 rfl (lv_at hl 1 rfl) ?_
  refine lv_if_ne (tgt := 13) S.1 S.2.1 dL_act_1 (by decide) (fun cq => ?_) (fun cq => ?_)
  · have h := d_f cq h
    refine lv_iload_n S.1 S.2.1 dL_act_13 rfl (lv_at hl 1 rfl) ?_
    refine lv_iconst (v := 1) S.1 S.2.1 dL_act_14 (by decide) ?_
    refine lv_icmp_ne (tgt := 28) S.1 S.2.1 dL_act_15 (by decide) (fun cq => ?_) (fun cq => ?_)
    · have h := d_f cq h
      refine lv_iload_n S.1 S.2.1 dL_act_28 rfl (lv_at hl 1 rfl) ?_
      refine lv_iconst (v := 2) S.1 S.2.1 dL_act_29 (by decide) ?_
      refine lv_icmp_ne (tgt := 60) S.1 S.2.1 dL_act_30 (by decide) (fun cq => ?_) (fun cq => ?_)
      · have h := d_f cq h
        refine lv_iload_n S.1 S.2.1 dL_act_60 rfl (lv_at hl 1 rfl) ?_
        refine lv_iconst (v := 3) S.1 S.2.1 dL_act_61 (by decide) ?_
        refine lv_icmp_ne (tgt := 86) S.1 S.2.1 dL_act_62 (by decide) (fun cq => ?_) (fun cq => ?_)
        · have h := d_f cq h
          refine lv_iload_n S.1 S.2.1 dL_act_86 rfl (lv_at hl 1 rfl) ?_
          refine lv_iconst (v := 4) S.1 S.2.1 dL_act_87 (by decide) ?_
          refine lv_icmp_ne (tgt := 105) S.1 S.2.1 dL_act_88 (by decide) (fun cq => ?_) (fun cq => ?_)
          · have h := d_f cq h
            refine lv_iload_n S.1 S.2.1 dL_act_105 rfl (lv_at hl 1 rfl) ?_
            refine lv_iconst (v := 5) S.1 S.2.1 dL_act_106 (by decide) ?_
            refine lv_icmp_ne (tgt := 124) S.1 S.2.1 dL_act_107 (by decide) (fun cq => ?_) (fun cq => ?_)
            · have h := d_f cq h
              refine lv_iload_n S.1 S.2.1 dL_act_124 rfl (lv_at hl 1 rfl) ?_
              refine lv_bipush (v := 6) S.1 S.2.1 dL_act_125 (by decide) ?_
              refine lv_icmp_ne (tgt := 142) S.1 S.2.1 dL_act_127 (by decide) (fun cq => ?_) (fun cq => ?_)
              · have h := d_f cq h
                refine lv_iload_n S.1 S.2.1 dL_act_142 rfl (lv_at hl 1 rfl) ?_
                refine lv_bipush (v := 7) S.1 S.2.1 dL_act_143 (by decide) ?_
                refine lv_icmp_ne (tgt := 171) S.1 S.2.1 dL_act_145 (by decide) (fun cq => ?_) (fun cq => ?_)
                · have h := d_f cq h
                  refine lv_iload_n S.1 S.2.1 dL_act_171 rfl (lv_at hl 1 rfl) ?_
                  refine lv_bipush (v := 8) S.1 S.2.1 dL_act_172 (by decide) ?_
                  refine lv_icmp_ne (tgt := 191) S.1 S.2.1 dL_act_174 (by decide) (fun cq => ?_) (fun cq => ?_)
                  · have h := d_f cq h
                    refine lv_iload_n S.1 S.2.1 dL_act_191 rfl (lv_at hl 1 rfl) ?_
                    refine lv_bipush (v := 9) S.1 S.2.1 dL_act_192 (by decide) ?_
                    refine lv_icmp_ne (tgt := 205) S.1 S.2.1 dL_act_194 (by decide) (fun cq => ?_) (fun cq => ?_)
                    · have h := d_f cq h
                      refine lv_iload_n S.1 S.2.1 dL_act_205 rfl (lv_at hl 1 rfl) ?_
                      refine lv_bipush (v := 10) S.1 S.2.1 dL_act_206 (by decide) ?_
                      refine lv_icmp_ne (tgt := 221) S.1 S.2.1 dL_act_208 (by decide) (fun cq => ?_) (fun cq => ?_)
                      · have h := d_f cq h
                        refine lv_iload_n S.1 S.2.1 dL_act_221 rfl (lv_at hl 1 rfl) ?_
                        refine lv_bipush (v := 11) S.1 S.2.1 dL_act_222 (by decide) ?_
                        refine lv_icmp_ne (tgt := 235) S.1 S.2.1 dL_act_224 (by decide) (fun cq => ?_) (fun cq => ?_)
                        · have h := d_f cq h
                          refine lv_iload_n S.1 S.2.1 dL_act_235 rfl (lv_at hl 1 rfl) ?_
                          refine lv_bipush (v := 12) S.1 S.2.1 dL_act_236 (by decide) ?_
                          refine lv_icmp_ne (tgt := 253) S.1 S.2.1 dL_act_238 (by decide) (fun cq => ?_) (fun cq => ?_)
                          · have h := d_f cq h
                            refine lv_iload_n S.1 S.2.1 dL_act_253 rfl (lv_at hl 1 rfl) ?_
                            refine lv_bipush (v := 13) S.1 S.2.1 dL_act_254 (by decide) ?_
                            refine lv_icmp_ne (tgt := 269) S.1 S.2.1 dL_act_256 (by decide) (fun cq => ?_) (fun cq => ?_)
                            · have h := d_f cq h
                              refine lv_iload_n S.1 S.2.1 dL_act_269 rfl (lv_at hl 1 rfl) ?_
                              refine lv_bipush (v := 14) S.1 S.2.1 dL_act_270 (by decide) ?_
                              refine lv_icmp_ne (tgt := 289) S.1 S.2.1 dL_act_272 (by decide) (fun cq => ?_) (fun cq => ?_)
                              · have h := d_f cq h
                                refine lv_iload_n S.1 S.2.1 dL_act_289 rfl (lv_at hl 1 rfl) ?_
                                refine lv_bipush (v := 15) S.1 S.2.1 dL_act_290 (by decide) ?_
                                refine lv_icmp_ne (tgt := 307) S.1 S.2.1 dL_act_292 (by decide) (fun cq => ?_) (fun cq => ?_)
                                · have h := d_f cq h
                                  refine lv_iload_n S.1 S.2.1 dL_act_307 rfl (lv_at hl 1 rfl) ?_
                                  refine lv_bipush (v := 16) S.1 S.2.1 dL_act_308 (by decide) ?_
                                  refine lv_icmp_ne (tgt := 323) S.1 S.2.1 dL_act_310 (by decide) (fun cq => ?_) (fun cq => ?_)
                                  · have h := d_f cq h
                                    refine lv_iload_n S.1 S.2.1 dL_act_323 rfl (lv_at hl 1 rfl) ?_
                                    refine lv_bipush (v := 17) S.1 S.2.1 dL_act_324 (by decide) ?_
                                    refine lv_icmp_ne (tgt := 341) S.1 S.2.1 dL_act_326 (by decide) (fun cq => ?_) (fun cq => ?_)
                                    · have h := d_f cq h
                                      refine lv_iload_n S.1 S.2.1 dL_act_341 rfl (lv_at hl 1 rfl) ?_
                                      refine lv_bipush (v := 18) S.1 S.2.1 dL_act_342 (by decide) ?_
                                      refine lv_icmp_ne (tgt := 357) S.1 S.2.1 dL_act_344 (by decide) (fun cq => ?_) (fun cq => ?_)
                                      · have h := d_f cq h
                                        refine lv_iload_n S.1 S.2.1 dL_act_357 rfl (lv_at hl 1 rfl) ?_
                                        refine lv_bipush (v := 19) S.1 S.2.1 dL_act_358 (by decide) ?_
                                        refine lv_icmp_ne (tgt := 372) S.1 S.2.1 dL_act_360 (by decide) (fun cq => ?_) (fun cq => ?_)
                                        · have h := d_f cq h
                                          refine lv_aload_n S.1 S.2.1 dL_act_372 rfl (lv_at hl 0 rfl) ?_
                                          refine lv_iload_n S.1 S.2.1 dL_act_373 rfl (lv_at hl 2 rfl) ?_
                                          refine lv_iload_n S.1 S.2.1 dL_act_374 rfl (lv_at hl 3 rfl) ?_
                                          obtain ⟨q3, hc1, h⟩ := d_b h
                                          refine dxri (o := q3) (vx_runV (As := [.int p2, .int p3]) (rest := []) S (kX11_rehearse l g hst hc1) (cwV 2 S.2.2.2.2 gL_act_X11_rehearse rfl rfl rfl ynX11_rehearse ⟨Nat.le_of_ble_eq_true rfl, Nat.le_of_ble_eq_true rfl⟩) (dpV hE hP hS (ci := 11) rfl (dat12 k0)) rfl rfl hl.1 rfl (lv_room (Nat.le_of_ble_eq_true rfl)) dL_act_375 ⟨Nat.le_of_ble_eq_true rfl, Nat.le_of_ble_eq_true rfl⟩) hS (fun u q9 ce H locs eo hP hS h1 h2 h3 => ?_) (fun v4 m2 H locs eo hP hS => ?_)
                                          · subst eo
                                            have h := d_s1 h
                                            obtain ⟨kx, mx⟩ := u
                                            have h := d_p2 h
                                            have hP : va_P g.1 vwCl (dws g mx) H := hP
                                            have h3 : s.vm.findClass (dEx kx) = some ce.cls := h3
                                            by_cases hk0 : kx = 3
                                            · obtain rfl : kx = 3 := hk0
                                              have h := d_t (rfl : (3 : Nat) = 3) h
                                              refine vx_catch (E := dEx 3) (name := "java/lang/IndexOutOfBoundsException") S.2.2.2.1 [] { startPc := 0, endPc := 379, handlerPc := 380, catchType := 98 } [{ startPc := 0, endPc := 379, handlerPc := 386, catchType := 102 }, { startPc := 0, endPc := 379, handlerPc := 392, catchType := 106 }] (htab.trans rfl) (fun z hz => by simp at hz) (by decide) (by decide) (S.2.2.2.2 (.classLink RL 98 "java/lang/IndexOutOfBoundsException") (List.mem_of_getElem? (i := 1) rfl)) (va_Nw.use rfl (hE.2.2.2.2.2.2.2.2.1 "java/lang/IndexOutOfBoundsException" (by decide))) h1 h2 h3 ?_
                                              refine W.eq (g2 := F0 mth 380 ls [.ref q9]) rfl ?_
                                              refine lv_astore (lv' := [(6, .ref q9), (0, .ref (dad g p0)), (1, .int p1), (2, .int p2), (3, .int p3), (4, .int p4), (5, .int p5)]) S.1 S.2.1 dL_act_380 hl (by decide) rfl (fun ls hl => ?_)
                                              refine lv_ldc2 (v := (-71)) S.1 S.2.1 S.2.2.2.1 (S.2.2.2.2 (.constantLong RL 100 (-71)) (List.mem_of_getElem? (i := 4) rfl)) dL_act_382 ?_
                                              obtain ⟨rfl, rfl⟩ := Prod.mk.inj (Option.some.inj h)
                                              exact dLtj S hr hlk hE hP hS (Nat.le_of_ble_eq_true rfl) (Nat.le_of_ble_eq_true rfl) dL_act_385
                                            · have h := d_f hk0 h
                                              by_cases hk1 : kx = 1
                                              · obtain rfl : kx = 1 := hk1
                                                have h := d_t (rfl : (1 : Nat) = 1) h
                                                refine vx_catch (E := dEx 1) (name := "java/lang/IllegalArgumentException") S.2.2.2.1 [{ startPc := 0, endPc := 379, handlerPc := 380, catchType := 98 }] { startPc := 0, endPc := 379, handlerPc := 386, catchType := 102 } [{ startPc := 0, endPc := 379, handlerPc := 392, catchType := 106 }] (htab.trans rfl) (fun z hz => by simp only [List.mem_cons, List.not_mem_nil, or_false] at hz; subst hz; exact Or.inr ⟨by decide, "java/lang/IndexOutOfBoundsException", S.2.2.2.2 (.classLink RL 98 "java/lang/IndexOutOfBoundsException") (List.mem_of_getElem? (i := 1) rfl), hE.2.2.2.2.2.2.2.2.2 (dEx 1) (by decide) "java/lang/IndexOutOfBoundsException" (by decide) (by decide)⟩) (by decide) (by decide) (S.2.2.2.2 (.classLink RL 102 "java/lang/IllegalArgumentException") (List.mem_of_getElem? (i := 2) rfl)) (va_Nw.use rfl (hE.2.2.2.2.2.2.2.2.1 "java/lang/IllegalArgumentException" (by decide))) h1 h2 h3 ?_
                                                refine W.eq (g2 := F0 mth 386 ls [.ref q9]) rfl ?_
                                                refine lv_astore (lv' := [(6, .ref q9), (0, .ref (dad g p0)), (1, .int p1), (2, .int p2), (3, .int p3), (4, .int p4), (5, .int p5)]) S.1 S.2.1 dL_act_386 hl (by decide) rfl (fun ls hl => ?_)
                                                refine lv_ldc2 (v := (-72)) S.1 S.2.1 S.2.2.2.1 (S.2.2.2.2 (.constantLong RL 104 (-72)) (List.mem_of_getElem? (i := 5) rfl)) dL_act_388 ?_
                                                obtain ⟨rfl, rfl⟩ := Prod.mk.inj (Option.some.inj h)
                                                exact dLtj S hr hlk hE hP hS (Nat.le_of_ble_eq_true rfl) (Nat.le_of_ble_eq_true rfl) dL_act_391
                                              · have h := d_f hk1 h
                                                by_cases hk2 : kx = 2
                                                · obtain rfl : kx = 2 := hk2
                                                  have h := d_t (rfl : (2 : Nat) = 2) h
                                                  refine vx_catch (E := dEx 2) (name := "java/lang/IllegalStateException") S.2.2.2.1 [{ startPc := 0, endPc := 379, handlerPc := 380, catchType := 98 }, { startPc := 0, endPc := 379, handlerPc := 386, catchType := 102 }] { startPc := 0, endPc := 379, handlerPc := 392, catchType := 106 } [] (htab.trans rfl) (fun z hz => by simp only [List.mem_cons, List.not_mem_nil, or_false] at hz; rcases hz with rfl | rfl; exact Or.inr ⟨by decide, "java/lang/IndexOutOfBoundsException", S.2.2.2.2 (.classLink RL 98 "java/lang/IndexOutOfBoundsException") (List.mem_of_getElem? (i := 1) rfl), hE.2.2.2.2.2.2.2.2.2 (dEx 2) (by decide) "java/lang/IndexOutOfBoundsException" (by decide) (by decide)⟩; exact Or.inr ⟨by decide, "java/lang/IllegalArgumentException", S.2.2.2.2 (.classLink RL 102 "java/lang/IllegalArgumentException") (List.mem_of_getElem? (i := 2) rfl), hE.2.2.2.2.2.2.2.2.2 (dEx 2) (by decide) "java/lang/IllegalArgumentException" (by decide) (by decide)⟩) (by decide) (by decide) (S.2.2.2.2 (.classLink RL 106 "java/lang/IllegalStateException") (List.mem_of_getElem? (i := 3) rfl)) (va_Nw.use rfl (hE.2.2.2.2.2.2.2.2.1 "java/lang/IllegalStateException" (by decide))) h1 h2 h3 ?_
                                                  refine W.eq (g2 := F0 mth 392 ls [.ref q9]) rfl ?_
                                                  refine lv_astore (lv' := [(6, .ref q9), (0, .ref (dad g p0)), (1, .int p1), (2, .int p2), (3, .int p3), (4, .int p4), (5, .int p5)]) S.1 S.2.1 dL_act_392 hl (by decide) rfl (fun ls hl => ?_)
                                                  refine lv_ldc2 (v := (-73)) S.1 S.2.1 S.2.2.2.1 (S.2.2.2.2 (.constantLong RL 108 (-73)) (List.mem_of_getElem? (i := 6) rfl)) dL_act_394 ?_
                                                  obtain ⟨rfl, rfl⟩ := Prod.mk.inj (Option.some.inj h)
                                                  exact dLtj S hr hlk hE hP hS (Nat.le_of_ble_eq_true rfl) (Nat.le_of_ble_eq_true rfl) dL_act_397
                                                · have h := d_f hk2 h
                                                  cases h
                                          · subst eo
                                            have h := d_s2 h
                                            have h := d_p2 h
                                            refine lv_i2l S.1 S.2.1 dL_act_378 rfl ?_
                                            obtain ⟨rfl, rfl⟩ := Prod.mk.inj (Option.some.inj h)
                                            exact dLtj S hr hlk hE hP hS (Nat.le_of_ble_eq_true rfl) (Nat.le_of_ble_eq_true rfl) dL_act_379
                                        · have h := d_t cq h
                                          refine lv_aload_n S.1 S.2.1 dL_act_363 rfl (lv_at hl 0 rfl) ?_
                                          refine lv_iload_n S.1 S.2.1 dL_act_364 rfl (lv_at hl 2 rfl) ?_
                                          obtain ⟨q7, hc5, h⟩ := d_b h
                                          refine dxri (o := q7) (vx_runV (As := [.int p2]) (rest := []) S (kX11_ranked l g hst hc5) (cwV 1 S.2.2.2.2 gL_act_X11_ranked rfl rfl rfl ynX11_ranked ⟨Nat.le_of_ble_eq_true rfl, Nat.le_of_ble_eq_true rfl⟩) (dpV hE hP hS (ci := 11) rfl (dat12 k0)) rfl rfl hl.1 rfl (lv_room (Nat.le_of_ble_eq_true rfl)) dL_act_365 ⟨Nat.le_of_ble_eq_true rfl, Nat.le_of_ble_eq_true rfl⟩) hS (fun u q9 ce H locs eo hP hS h1 h2 h3 => ?_) (fun v8 m6 H locs eo hP hS => ?_)
                                          · subst eo
                                            have h := d_s1 h
                                            obtain ⟨kx, mx⟩ := u
                                            have h := d_p2 h
                                            have hP : va_P g.1 vwCl (dws g mx) H := hP
                                            have h3 : s.vm.findClass (dEx kx) = some ce.cls := h3
                                            by_cases hk0 : kx = 3
                                            · obtain rfl : kx = 3 := hk0
                                              have h := d_t (rfl : (3 : Nat) = 3) h
                                              refine vx_catch (E := dEx 3) (name := "java/lang/IndexOutOfBoundsException") S.2.2.2.1 [] { startPc := 0, endPc := 379, handlerPc := 380, catchType := 98 } [{ startPc := 0, endPc := 379, handlerPc := 386, catchType := 102 }, { startPc := 0, endPc := 379, handlerPc := 392, catchType := 106 }] (htab.trans rfl) (fun z hz => by simp at hz) (by decide) (by decide) (S.2.2.2.2 (.classLink RL 98 "java/lang/IndexOutOfBoundsException") (List.mem_of_getElem? (i := 1) rfl)) (va_Nw.use rfl (hE.2.2.2.2.2.2.2.2.1 "java/lang/IndexOutOfBoundsException" (by decide))) h1 h2 h3 ?_
                                              refine W.eq (g2 := F0 mth 380 ls [.ref q9]) rfl ?_
                                              refine lv_astore (lv' := [(6, .ref q9), (0, .ref (dad g p0)), (1, .int p1), (2, .int p2), (3, .int p3), (4, .int p4), (5, .int p5)]) S.1 S.2.1 dL_act_380 hl (by decide) rfl (fun ls hl => ?_)
                                              refine lv_ldc2 (v := (-71)) S.1 S.2.1 S.2.2.2.1 (S.2.2.2.2 (.constantLong RL 100 (-71)) (List.mem_of_getElem? (i := 4) rfl)) dL_act_382 ?_
                                              obtain ⟨rfl, rfl⟩ := Prod.mk.inj (Option.some.inj h)
                                              exact dLtj S hr hlk hE hP hS (Nat.le_of_ble_eq_true rfl) (Nat.le_of_ble_eq_true rfl) dL_act_385
                                            · have h := d_f hk0 h
                                              by_cases hk1 : kx = 1
                                              · obtain rfl : kx = 1 := hk1
                                                have h := d_t (rfl : (1 : Nat) = 1) h
                                                refine vx_catch (E := dEx 1) (name := "java/lang/IllegalArgumentException") S.2.2.2.1 [{ startPc := 0, endPc := 379, handlerPc := 380, catchType := 98 }] { startPc := 0, endPc := 379, handlerPc := 386, catchType := 102 } [{ startPc := 0, endPc := 379, handlerPc := 392, catchType := 106 }] (htab.trans rfl) (fun z hz => by simp only [List.mem_cons, List.not_mem_nil, or_false] at hz; subst hz; exact Or.inr ⟨by decide, "java/lang/IndexOutOfBoundsException", S.2.2.2.2 (.classLink RL 98 "java/lang/IndexOutOfBoundsException") (List.mem_of_getElem? (i := 1) rfl), hE.2.2.2.2.2.2.2.2.2 (dEx 1) (by decide) "java/lang/IndexOutOfBoundsException" (by decide) (by decide)⟩) (by decide) (by decide) (S.2.2.2.2 (.classLink RL 102 "java/lang/IllegalArgumentException") (List.mem_of_getElem? (i := 2) rfl)) (va_Nw.use rfl (hE.2.2.2.2.2.2.2.2.1 "java/lang/IllegalArgumentException" (by decide))) h1 h2 h3 ?_
                                                refine W.eq (g2 := F0 mth 386 ls [.ref q9]) rfl ?_
                                                refine lv_astore (lv' := [(6, .ref q9), (0, .ref (dad g p0)), (1, .int p1), (2, .int p2), (3, .int p3), (4, .int p4), (5, .int p5)]) S.1 S.2.1 dL_act_386 hl (by decide) rfl (fun ls hl => ?_)
                                                refine lv_ldc2 (v := (-72)) S.1 S.2.1 S.2.2.2.1 (S.2.2.2.2 (.constantLong RL 104 (-72)) (List.mem_of_getElem? (i := 5) rfl)) dL_act_388 ?_
                                                obtain ⟨rfl, rfl⟩ := Prod.mk.inj (Option.some.inj h)
                                                exact dLtj S hr hlk hE hP hS (Nat.le_of_ble_eq_true rfl) (Nat.le_of_ble_eq_true rfl) dL_act_391
                                              · have h := d_f hk1 h
                                                by_cases hk2 : kx = 2
                                                · obtain rfl : kx = 2 := hk2
                                                  have h := d_t (rfl : (2 : Nat) = 2) h
                                                  refine vx_catch (E := dEx 2) (name := "java/lang/IllegalStateException") S.2.2.2.1 [{ startPc := 0, endPc := 379, handlerPc := 380, catchType := 98 }, { startPc := 0, endPc := 379, handlerPc := 386, catchType := 102 }] { startPc := 0, endPc := 379, handlerPc := 392, catchType := 106 } [] (htab.trans rfl) (fun z hz => by simp only [List.mem_cons, List.not_mem_nil, or_false] at hz; rcases hz with rfl | rfl; exact Or.inr ⟨by decide, "java/lang/IndexOutOfBoundsException", S.2.2.2.2 (.classLink RL 98 "java/lang/IndexOutOfBoundsException") (List.mem_of_getElem? (i := 1) rfl), hE.2.2.2.2.2.2.2.2.2 (dEx 2) (by decide) "java/lang/IndexOutOfBoundsException" (by decide) (by decide)⟩; exact Or.inr ⟨by decide, "java/lang/IllegalArgumentException", S.2.2.2.2 (.classLink RL 102 "java/lang/IllegalArgumentException") (List.mem_of_getElem? (i := 2) rfl), hE.2.2.2.2.2.2.2.2.2 (dEx 2) (by decide) "java/lang/IllegalArgumentException" (by decide) (by decide)⟩) (by decide) (by decide) (S.2.2.2.2 (.classLink RL 106 "java/lang/IllegalStateException") (List.mem_of_getElem? (i := 3) rfl)) (va_Nw.use rfl (hE.2.2.2.2.2.2.2.2.1 "java/lang/IllegalStateException" (by decide))) h1 h2 h3 ?_
                                                  refine W.eq (g2 := F0 mth 392 ls [.ref q9]) rfl ?_
                                                  refine lv_astore (lv' := [(6, .ref q9), (0, .ref (dad g p0)), (1, .int p1), (2, .int p2), (3, .int p3), (4, .int p4), (5, .int p5)]) S.1 S.2.1 dL_act_392 hl (by decide) rfl (fun ls hl => ?_)
                                                  refine lv_ldc2 (v := (-73)) S.1 S.2.1 S.2.2.2.1 (S.2.2.2.2 (.constantLong RL 108 (-73)) (List.mem_of_getElem? (i := 6) rfl)) dL_act_394 ?_
                                                  obtain ⟨rfl, rfl⟩ := Prod.mk.inj (Option.some.inj h)
                                                  exact dLtj S hr hlk hE hP hS (Nat.le_of_ble_eq_true rfl) (Nat.le_of_ble_eq_true rfl) dL_act_397
                                                · have h := d_f hk2 h
                                                  cases h
                                          · subst eo
                                            have h := d_s2 h
                                            have h := d_p2 h
                                            refine lv_i2l S.1 S.2.1 dL_act_368 rfl ?_
                                            refine lv_goto (tgt := 379) S.1 S.2.1 dL_act_369 (by decide) ?_
                                            obtain ⟨rfl, rfl⟩ := Prod.mk.inj (Option.some.inj h)
                                            exact dLtj S hr hlk hE hP hS (Nat.le_of_ble_eq_true rfl) (Nat.le_of_ble_eq_true rfl) dL_act_379
                                      · have h := d_t cq h
                                        refine lv_aload_n S.1 S.2.1 dL_act_347 rfl (lv_at hl 0 rfl) ?_
                                        refine lv_iload_n S.1 S.2.1 dL_act_348 rfl (lv_at hl 2 rfl) ?_
                                        refine lv_iload_n S.1 S.2.1 dL_act_349 rfl (lv_at hl 3 rfl) ?_
                                        obtain ⟨q11, hc9, h⟩ := d_b h
                                        refine dxri (o := q11) (vx_runV (As := [.int p2, .int p3]) (rest := []) S (kX11_penalty l g hst hc9) (cwV 2 S.2.2.2.2 gL_act_X11_penalty rfl rfl rfl ynX11_penalty ⟨Nat.le_of_ble_eq_true rfl, Nat.le_of_ble_eq_true rfl⟩) (dpV hE hP hS (ci := 11) rfl (dat12 k0)) rfl rfl hl.1 rfl (lv_room (Nat.le_of_ble_eq_true rfl)) dL_act_350 ⟨Nat.le_of_ble_eq_true rfl, Nat.le_of_ble_eq_true rfl⟩) hS (fun u q9 ce H locs eo hP hS h1 h2 h3 => ?_) (fun v12 m10 H locs eo hP hS => ?_)
                                        · subst eo
                                          have h := d_s1 h
                                          obtain ⟨kx, mx⟩ := u
                                          have h := d_p2 h
                                          have hP : va_P g.1 vwCl (dws g mx) H := hP
                                          have h3 : s.vm.findClass (dEx kx) = some ce.cls := h3
                                          by_cases hk0 : kx = 3
                                          · obtain rfl : kx = 3 := hk0
                                            have h := d_t (rfl : (3 : Nat) = 3) h
                                            refine vx_catch (E := dEx 3) (name := "java/lang/IndexOutOfBoundsException") S.2.2.2.1 [] { startPc := 0, endPc := 379, handlerPc := 380, catchType := 98 } [{ startPc := 0, endPc := 379, handlerPc := 386, catchType := 102 }, { startPc := 0, endPc := 379, handlerPc := 392, catchType := 106 }] (htab.trans rfl) (fun z hz => by simp at hz) (by decide) (by decide) (S.2.2.2.2 (.classLink RL 98 "java/lang/IndexOutOfBoundsException") (List.mem_of_getElem? (i := 1) rfl)) (va_Nw.use rfl (hE.2.2.2.2.2.2.2.2.1 "java/lang/IndexOutOfBoundsException" (by decide))) h1 h2 h3 ?_
                                            refine W.eq (g2 := F0 mth 380 ls [.ref q9]) rfl ?_
                                            refine lv_astore (lv' := [(6, .ref q9), (0, .ref (dad g p0)), (1, .int p1), (2, .int p2), (3, .int p3), (4, .int p4), (5, .int p5)]) S.1 S.2.1 dL_act_380 hl (by decide) rfl (fun ls hl => ?_)
                                            refine lv_ldc2 (v := (-71)) S.1 S.2.1 S.2.2.2.1 (S.2.2.2.2 (.constantLong RL 100 (-71)) (List.mem_of_getElem? (i := 4) rfl)) dL_act_382 ?_
                                            obtain ⟨rfl, rfl⟩ := Prod.mk.inj (Option.some.inj h)
                                            exact dLtj S hr hlk hE hP hS (Nat.le_of_ble_eq_true rfl) (Nat.le_of_ble_eq_true rfl) dL_act_385
                                          · have h := d_f hk0 h
                                            by_cases hk1 : kx = 1
                                            · obtain rfl : kx = 1 := hk1
                                              have h := d_t (rfl : (1 : Nat) = 1) h
                                              refine vx_catch (E := dEx 1) (name := "java/lang/IllegalArgumentException") S.2.2.2.1 [{ startPc := 0, endPc := 379, handlerPc := 380, catchType := 98 }] { startPc := 0, endPc := 379, handlerPc := 386, catchType := 102 } [{ startPc := 0, endPc := 379, handlerPc := 392, catchType := 106 }] (htab.trans rfl) (fun z hz => by simp only [List.mem_cons, List.not_mem_nil, or_false] at hz; subst hz; exact Or.inr ⟨by decide, "java/lang/IndexOutOfBoundsException", S.2.2.2.2 (.classLink RL 98 "java/lang/IndexOutOfBoundsException") (List.mem_of_getElem? (i := 1) rfl), hE.2.2.2.2.2.2.2.2.2 (dEx 1) (by decide) "java/lang/IndexOutOfBoundsException" (by decide) (by decide)⟩) (by decide) (by decide) (S.2.2.2.2 (.classLink RL 102 "java/lang/IllegalArgumentException") (List.mem_of_getElem? (i := 2) rfl)) (va_Nw.use rfl (hE.2.2.2.2.2.2.2.2.1 "java/lang/IllegalArgumentException" (by decide))) h1 h2 h3 ?_
                                              refine W.eq (g2 := F0 mth 386 ls [.ref q9]) rfl ?_
                                              refine lv_astore (lv' := [(6, .ref q9), (0, .ref (dad g p0)), (1, .int p1), (2, .int p2), (3, .int p3), (4, .int p4), (5, .int p5)]) S.1 S.2.1 dL_act_386 hl (by decide) rfl (fun ls hl => ?_)
                                              refine lv_ldc2 (v := (-72)) S.1 S.2.1 S.2.2.2.1 (S.2.2.2.2 (.constantLong RL 104 (-72)) (List.mem_of_getElem? (i := 5) rfl)) dL_act_388 ?_
                                              obtain ⟨rfl, rfl⟩ := Prod.mk.inj (Option.some.inj h)
                                              exact dLtj S hr hlk hE hP hS (Nat.le_of_ble_eq_true rfl) (Nat.le_of_ble_eq_true rfl) dL_act_391
                                            · have h := d_f hk1 h
                                              by_cases hk2 : kx = 2
                                              · obtain rfl : kx = 2 := hk2
                                                have h := d_t (rfl : (2 : Nat) = 2) h
                                                refine vx_catch (E := dEx 2) (name := "java/lang/IllegalStateException") S.2.2.2.1 [{ startPc := 0, endPc := 379, handlerPc := 380, catchType := 98 }, { startPc := 0, endPc := 379, handlerPc := 386, catchType := 102 }] { startPc := 0, endPc := 379, handlerPc := 392, catchType := 106 } [] (htab.trans rfl) (fun z hz => by simp only [List.mem_cons, List.not_mem_nil, or_false] at hz; rcases hz with rfl | rfl; exact Or.inr ⟨by decide, "java/lang/IndexOutOfBoundsException", S.2.2.2.2 (.classLink RL 98 "java/lang/IndexOutOfBoundsException") (List.mem_of_getElem? (i := 1) rfl), hE.2.2.2.2.2.2.2.2.2 (dEx 2) (by decide) "java/lang/IndexOutOfBoundsException" (by decide) (by decide)⟩; exact Or.inr ⟨by decide, "java/lang/IllegalArgumentException", S.2.2.2.2 (.classLink RL 102 "java/lang/IllegalArgumentException") (List.mem_of_getElem? (i := 2) rfl), hE.2.2.2.2.2.2.2.2.2 (dEx 2) (by decide) "java/lang/IllegalArgumentException" (by decide) (by decide)⟩) (by decide) (by decide) (S.2.2.2.2 (.classLink RL 106 "java/lang/IllegalStateException") (List.mem_of_getElem? (i := 3) rfl)) (va_Nw.use rfl (hE.2.2.2.2.2.2.2.2.1 "java/lang/IllegalStateException" (by decide))) h1 h2 h3 ?_
                                                refine W.eq (g2 := F0 mth 392 ls [.ref q9]) rfl ?_
                                                refine lv_astore (lv' := [(6, .ref q9), (0, .ref (dad g p0)), (1, .int p1), (2, .int p2), (3, .int p3), (4, .int p4), (5, .int p5)]) S.1 S.2.1 dL_act_392 hl (by decide) rfl (fun ls hl => ?_)
                                                refine lv_ldc2 (v := (-73)) S.1 S.2.1 S.2.2.2.1 (S.2.2.2.2 (.constantLong RL 108 (-73)) (List.mem_of_getElem? (i := 6) rfl)) dL_act_394 ?_
                                                obtain ⟨rfl, rfl⟩ := Prod.mk.inj (Option.some.inj h)
                                                exact dLtj S hr hlk hE hP hS (Nat.le_of_ble_eq_true rfl) (Nat.le_of_ble_eq_true rfl) dL_act_397
                                              · have h := d_f hk2 h
                                                cases h
                                        · subst eo
                                          have h := d_s2 h
                                          have h := d_p2 h
                                          refine lv_i2l S.1 S.2.1 dL_act_353 rfl ?_
                                          refine lv_goto (tgt := 379) S.1 S.2.1 dL_act_354 (by decide) ?_
                                          obtain ⟨rfl, rfl⟩ := Prod.mk.inj (Option.some.inj h)
                                          exact dLtj S hr hlk hE hP hS (Nat.le_of_ble_eq_true rfl) (Nat.le_of_ble_eq_true rfl) dL_act_379
                                    · have h := d_t cq h
                                      refine lv_aload_n S.1 S.2.1 dL_act_329 rfl (lv_at hl 0 rfl) ?_
                                      refine lv_iload_n S.1 S.2.1 dL_act_330 rfl (lv_at hl 2 rfl) ?_
                                      refine lv_iload_n S.1 S.2.1 dL_act_331 rfl (lv_at hl 3 rfl) ?_
                                      refine lv_iload S.1 S.2.1 dL_act_332 (lv_at hl 4 rfl) ?_
                                      obtain ⟨q15, hc13, h⟩ := d_b h
                                      refine dxri (o := q15) (vx_runV (As := [.int p2, .int p3, .int p4]) (rest := []) S (kX11_judge l g hst hc13) (cwV 3 S.2.2.2.2 gL_act_X11_judge rfl rfl rfl ynX11_judge ⟨Nat.le_of_ble_eq_true rfl, Nat.le_of_ble_eq_true rfl⟩) (dpV hE hP hS (ci := 11) rfl (dat12 k0)) rfl rfl hl.1 rfl (lv_room (Nat.le_of_ble_eq_true rfl)) dL_act_334 ⟨Nat.le_of_ble_eq_true rfl, Nat.le_of_ble_eq_true rfl⟩) hS (fun u q9 ce H locs eo hP hS h1 h2 h3 => ?_) (fun v16 m14 H locs eo hP hS => ?_)
                                      · subst eo
                                        have h := d_s1 h
                                        obtain ⟨kx, mx⟩ := u
                                        have h := d_p2 h
                                        have hP : va_P g.1 vwCl (dws g mx) H := hP
                                        have h3 : s.vm.findClass (dEx kx) = some ce.cls := h3
                                        by_cases hk0 : kx = 3
                                        · obtain rfl : kx = 3 := hk0
                                          have h := d_t (rfl : (3 : Nat) = 3) h
                                          refine vx_catch (E := dEx 3) (name := "java/lang/IndexOutOfBoundsException") S.2.2.2.1 [] { startPc := 0, endPc := 379, handlerPc := 380, catchType := 98 } [{ startPc := 0, endPc := 379, handlerPc := 386, catchType := 102 }, { startPc := 0, endPc := 379, handlerPc := 392, catchType := 106 }] (htab.trans rfl) (fun z hz => by simp at hz) (by decide) (by decide) (S.2.2.2.2 (.classLink RL 98 "java/lang/IndexOutOfBoundsException") (List.mem_of_getElem? (i := 1) rfl)) (va_Nw.use rfl (hE.2.2.2.2.2.2.2.2.1 "java/lang/IndexOutOfBoundsException" (by decide))) h1 h2 h3 ?_
                                          refine W.eq (g2 := F0 mth 380 ls [.ref q9]) rfl ?_
                                          refine lv_astore (lv' := [(6, .ref q9), (0, .ref (dad g p0)), (1, .int p1), (2, .int p2), (3, .int p3), (4, .int p4), (5, .int p5)]) S.1 S.2.1 dL_act_380 hl (by decide) rfl (fun ls hl => ?_)
                                          refine lv_ldc2 (v := (-71)) S.1 S.2.1 S.2.2.2.1 (S.2.2.2.2 (.constantLong RL 100 (-71)) (List.mem_of_getElem? (i := 4) rfl)) dL_act_382 ?_
                                          obtain ⟨rfl, rfl⟩ := Prod.mk.inj (Option.some.inj h)
                                          exact dLtj S hr hlk hE hP hS (Nat.le_of_ble_eq_true rfl) (Nat.le_of_ble_eq_true rfl) dL_act_385
                                        · have h := d_f hk0 h
                                          by_cases hk1 : kx = 1
                                          · obtain rfl : kx = 1 := hk1
                                            have h := d_t (rfl : (1 : Nat) = 1) h
                                            refine vx_catch (E := dEx 1) (name := "java/lang/IllegalArgumentException") S.2.2.2.1 [{ startPc := 0, endPc := 379, handlerPc := 380, catchType := 98 }] { startPc := 0, endPc := 379, handlerPc := 386, catchType := 102 } [{ startPc := 0, endPc := 379, handlerPc := 392, catchType := 106 }] (htab.trans rfl) (fun z hz => by simp only [List.mem_cons, List.not_mem_nil, or_false] at hz; subst hz; exact Or.inr ⟨by decide, "java/lang/IndexOutOfBoundsException", S.2.2.2.2 (.classLink RL 98 "java/lang/IndexOutOfBoundsException") (List.mem_of_getElem? (i := 1) rfl), hE.2.2.2.2.2.2.2.2.2 (dEx 1) (by decide) "java/lang/IndexOutOfBoundsException" (by decide) (by decide)⟩) (by decide) (by decide) (S.2.2.2.2 (.classLink RL 102 "java/lang/IllegalArgumentException") (List.mem_of_getElem? (i := 2) rfl)) (va_Nw.use rfl (hE.2.2.2.2.2.2.2.2.1 "java/lang/IllegalArgumentException" (by decide))) h1 h2 h3 ?_
                                            refine W.eq (g2 := F0 mth 386 ls [.ref q9]) rfl ?_
                                            refine lv_astore (lv' := [(6, .ref q9), (0, .ref (dad g p0)), (1, .int p1), (2, .int p2), (3, .int p3), (4, .int p4), (5, .int p5)]) S.1 S.2.1 dL_act_386 hl (by decide) rfl (fun ls hl => ?_)
                                            refine lv_ldc2 (v := (-72)) S.1 S.2.1 S.2.2.2.1 (S.2.2.2.2 (.constantLong RL 104 (-72)) (List.mem_of_getElem? (i := 5) rfl)) dL_act_388 ?_
                                            obtain ⟨rfl, rfl⟩ := Prod.mk.inj (Option.some.inj h)
                                            exact dLtj S hr hlk hE hP hS (Nat.le_of_ble_eq_true rfl) (Nat.le_of_ble_eq_true rfl) dL_act_391
                                          · have h := d_f hk1 h
                                            by_cases hk2 : kx = 2
                                            · obtain rfl : kx = 2 := hk2
                                              have h := d_t (rfl : (2 : Nat) = 2) h
                                              refine vx_catch (E := dEx 2) (name := "java/lang/IllegalStateException") S.2.2.2.1 [{ startPc := 0, endPc := 379, handlerPc := 380, catchType := 98 }, { startPc := 0, endPc := 379, handlerPc := 386, catchType := 102 }] { startPc := 0, endPc := 379, handlerPc := 392, catchType := 106 } [] (htab.trans rfl) (fun z hz => by simp only [List.mem_cons, List.not_mem_nil, or_false] at hz; rcases hz with rfl | rfl; exact Or.inr ⟨by decide, "java/lang/IndexOutOfBoundsException", S.2.2.2.2 (.classLink RL 98 "java/lang/IndexOutOfBoundsException") (List.mem_of_getElem? (i := 1) rfl), hE.2.2.2.2.2.2.2.2.2 (dEx 2) (by decide) "java/lang/IndexOutOfBoundsException" (by decide) (by decide)⟩; exact Or.inr ⟨by decide, "java/lang/IllegalArgumentException", S.2.2.2.2 (.classLink RL 102 "java/lang/IllegalArgumentException") (List.mem_of_getElem? (i := 2) rfl), hE.2.2.2.2.2.2.2.2.2 (dEx 2) (by decide) "java/lang/IllegalArgumentException" (by decide) (by decide)⟩) (by decide) (by decide) (S.2.2.2.2 (.classLink RL 106 "java/lang/IllegalStateException") (List.mem_of_getElem? (i := 3) rfl)) (va_Nw.use rfl (hE.2.2.2.2.2.2.2.2.1 "java/lang/IllegalStateException" (by decide))) h1 h2 h3 ?_
                                              refine W.eq (g2 := F0 mth 392 ls [.ref q9]) rfl ?_
                                              refine lv_astore (lv' := [(6, .ref q9), (0, .ref (dad g p0)), (1, .int p1), (2, .int p2), (3, .int p3), (4, .int p4), (5, .int p5)]) S.1 S.2.1 dL_act_392 hl (by decide) rfl (fun ls hl => ?_)
                                              refine lv_ldc2 (v := (-73)) S.1 S.2.1 S.2.2.2.1 (S.2.2.2.2 (.constantLong RL 108 (-73)) (List.mem_of_getElem? (i := 6) rfl)) dL_act_394 ?_
                                              obtain ⟨rfl, rfl⟩ := Prod.mk.inj (Option.some.inj h)
                                              exact dLtj S hr hlk hE hP hS (Nat.le_of_ble_eq_true rfl) (Nat.le_of_ble_eq_true rfl) dL_act_397
                                            · have h := d_f hk2 h
                                              cases h
                                      · subst eo
                                        have h := d_s2 h
                                        have h := d_p2 h
                                        refine lv_i2l S.1 S.2.1 dL_act_337 rfl ?_
                                        refine lv_goto (tgt := 379) S.1 S.2.1 dL_act_338 (by decide) ?_
                                        obtain ⟨rfl, rfl⟩ := Prod.mk.inj (Option.some.inj h)
                                        exact dLtj S hr hlk hE hP hS (Nat.le_of_ble_eq_true rfl) (Nat.le_of_ble_eq_true rfl) dL_act_379
                                  · have h := d_t cq h
                                    refine lv_aload_n S.1 S.2.1 dL_act_313 rfl (lv_at hl 0 rfl) ?_
                                    refine lv_iload_n S.1 S.2.1 dL_act_314 rfl (lv_at hl 2 rfl) ?_
                                    refine lv_iload_n S.1 S.2.1 dL_act_315 rfl (lv_at hl 3 rfl) ?_
                                    obtain ⟨q19, hc17, h⟩ := d_b h
                                    refine dxri (o := q19) (vx_runS (As := [.ref (dad g p0), .int p2, .int p3]) (rest := []) S (kL_clock l g hst hc17) (va_cwS 3 S.2.2.2.2 gL_act_L_clock rfl rfl rfl ynL_clock ⟨Nat.le_of_ble_eq_true rfl, Nat.le_of_ble_eq_true rfl⟩) (dpS hE hP hS) rfl rfl hl.1 rfl (lv_room (Nat.le_of_ble_eq_true rfl)) dL_act_316 ⟨Nat.le_of_ble_eq_true rfl, Nat.le_of_ble_eq_true rfl⟩) hS (fun u q9 ce H locs eo hP hS h1 h2 h3 => ?_) (fun v20 m18 H locs eo hP hS => ?_)
                                    · subst eo
                                      have h := d_s1 h
                                      obtain ⟨kx, mx⟩ := u
                                      have h := d_p2 h
                                      have hP : va_P g.1 vwCl (dws g mx) H := hP
                                      have h3 : s.vm.findClass (dEx kx) = some ce.cls := h3
                                      by_cases hk0 : kx = 3
                                      · obtain rfl : kx = 3 := hk0
                                        have h := d_t (rfl : (3 : Nat) = 3) h
                                        refine vx_catch (E := dEx 3) (name := "java/lang/IndexOutOfBoundsException") S.2.2.2.1 [] { startPc := 0, endPc := 379, handlerPc := 380, catchType := 98 } [{ startPc := 0, endPc := 379, handlerPc := 386, catchType := 102 }, { startPc := 0, endPc := 379, handlerPc := 392, catchType := 106 }] (htab.trans rfl) (fun z hz => by simp at hz) (by decide) (by decide) (S.2.2.2.2 (.classLink RL 98 "java/lang/IndexOutOfBoundsException") (List.mem_of_getElem? (i := 1) rfl)) (va_Nw.use rfl (hE.2.2.2.2.2.2.2.2.1 "java/lang/IndexOutOfBoundsException" (by decide))) h1 h2 h3 ?_
                                        refine W.eq (g2 := F0 mth 380 ls [.ref q9]) rfl ?_
                                        refine lv_astore (lv' := [(6, .ref q9), (0, .ref (dad g p0)), (1, .int p1), (2, .int p2), (3, .int p3), (4, .int p4), (5, .int p5)]) S.1 S.2.1 dL_act_380 hl (by decide) rfl (fun ls hl => ?_)
                                        refine lv_ldc2 (v := (-71)) S.1 S.2.1 S.2.2.2.1 (S.2.2.2.2 (.constantLong RL 100 (-71)) (List.mem_of_getElem? (i := 4) rfl)) dL_act_382 ?_
                                        obtain ⟨rfl, rfl⟩ := Prod.mk.inj (Option.some.inj h)
                                        exact dLtj S hr hlk hE hP hS (Nat.le_of_ble_eq_true rfl) (Nat.le_of_ble_eq_true rfl) dL_act_385
                                      · have h := d_f hk0 h
                                        by_cases hk1 : kx = 1
                                        · obtain rfl : kx = 1 := hk1
                                          have h := d_t (rfl : (1 : Nat) = 1) h
                                          refine vx_catch (E := dEx 1) (name := "java/lang/IllegalArgumentException") S.2.2.2.1 [{ startPc := 0, endPc := 379, handlerPc := 380, catchType := 98 }] { startPc := 0, endPc := 379, handlerPc := 386, catchType := 102 } [{ startPc := 0, endPc := 379, handlerPc := 392, catchType := 106 }] (htab.trans rfl) (fun z hz => by simp only [List.mem_cons, List.not_mem_nil, or_false] at hz; subst hz; exact Or.inr ⟨by decide, "java/lang/IndexOutOfBoundsException", S.2.2.2.2 (.classLink RL 98 "java/lang/IndexOutOfBoundsException") (List.mem_of_getElem? (i := 1) rfl), hE.2.2.2.2.2.2.2.2.2 (dEx 1) (by decide) "java/lang/IndexOutOfBoundsException" (by decide) (by decide)⟩) (by decide) (by decide) (S.2.2.2.2 (.classLink RL 102 "java/lang/IllegalArgumentException") (List.mem_of_getElem? (i := 2) rfl)) (va_Nw.use rfl (hE.2.2.2.2.2.2.2.2.1 "java/lang/IllegalArgumentException" (by decide))) h1 h2 h3 ?_
                                          refine W.eq (g2 := F0 mth 386 ls [.ref q9]) rfl ?_
                                          refine lv_astore (lv' := [(6, .ref q9), (0, .ref (dad g p0)), (1, .int p1), (2, .int p2), (3, .int p3), (4, .int p4), (5, .int p5)]) S.1 S.2.1 dL_act_386 hl (by decide) rfl (fun ls hl => ?_)
                                          refine lv_ldc2 (v := (-72)) S.1 S.2.1 S.2.2.2.1 (S.2.2.2.2 (.constantLong RL 104 (-72)) (List.mem_of_getElem? (i := 5) rfl)) dL_act_388 ?_
                                          obtain ⟨rfl, rfl⟩ := Prod.mk.inj (Option.some.inj h)
                                          exact dLtj S hr hlk hE hP hS (Nat.le_of_ble_eq_true rfl) (Nat.le_of_ble_eq_true rfl) dL_act_391
                                        · have h := d_f hk1 h
                                          by_cases hk2 : kx = 2
                                          · obtain rfl : kx = 2 := hk2
                                            have h := d_t (rfl : (2 : Nat) = 2) h
                                            refine vx_catch (E := dEx 2) (name := "java/lang/IllegalStateException") S.2.2.2.1 [{ startPc := 0, endPc := 379, handlerPc := 380, catchType := 98 }, { startPc := 0, endPc := 379, handlerPc := 386, catchType := 102 }] { startPc := 0, endPc := 379, handlerPc := 392, catchType := 106 } [] (htab.trans rfl) (fun z hz => by simp only [List.mem_cons, List.not_mem_nil, or_false] at hz; rcases hz with rfl | rfl; exact Or.inr ⟨by decide, "java/lang/IndexOutOfBoundsException", S.2.2.2.2 (.classLink RL 98 "java/lang/IndexOutOfBoundsException") (List.mem_of_getElem? (i := 1) rfl), hE.2.2.2.2.2.2.2.2.2 (dEx 2) (by decide) "java/lang/IndexOutOfBoundsException" (by decide) (by decide)⟩; exact Or.inr ⟨by decide, "java/lang/IllegalArgumentException", S.2.2.2.2 (.classLink RL 102 "java/lang/IllegalArgumentException") (List.mem_of_getElem? (i := 2) rfl), hE.2.2.2.2.2.2.2.2.2 (dEx 2) (by decide) "java/lang/IllegalArgumentException" (by decide) (by decide)⟩) (by decide) (by decide) (S.2.2.2.2 (.classLink RL 106 "java/lang/IllegalStateException") (List.mem_of_getElem? (i := 3) rfl)) (va_Nw.use rfl (hE.2.2.2.2.2.2.2.2.1 "java/lang/IllegalStateException" (by decide))) h1 h2 h3 ?_
                                            refine W.eq (g2 := F0 mth 392 ls [.ref q9]) rfl ?_
                                            refine lv_astore (lv' := [(6, .ref q9), (0, .ref (dad g p0)), (1, .int p1), (2, .int p2), (3, .int p3), (4, .int p4), (5, .int p5)]) S.1 S.2.1 dL_act_392 hl (by decide) rfl (fun ls hl => ?_)
                                            refine lv_ldc2 (v := (-73)) S.1 S.2.1 S.2.2.2.1 (S.2.2.2.2 (.constantLong RL 108 (-73)) (List.mem_of_getElem? (i := 6) rfl)) dL_act_394 ?_
                                            obtain ⟨rfl, rfl⟩ := Prod.mk.inj (Option.some.inj h)
                                            exact dLtj S hr hlk hE hP hS (Nat.le_of_ble_eq_true rfl) (Nat.le_of_ble_eq_true rfl) dL_act_397
                                          · have h := d_f hk2 h
                                            cases h
                                    · subst eo
                                      have h := d_s2 h
                                      have h := d_p2 h
                                      refine lv_i2l S.1 S.2.1 dL_act_319 rfl ?_
                                      refine lv_goto (tgt := 379) S.1 S.2.1 dL_act_320 (by decide) ?_
                                      obtain ⟨rfl, rfl⟩ := Prod.mk.inj (Option.some.inj h)
                                      exact dLtj S hr hlk hE hP hS (Nat.le_of_ble_eq_true rfl) (Nat.le_of_ble_eq_true rfl) dL_act_379
                                · have h := d_t cq h
                                  refine lv_aload_n S.1 S.2.1 dL_act_295 rfl (lv_at hl 0 rfl) ?_
                                  refine lv_iload_n S.1 S.2.1 dL_act_296 rfl (lv_at hl 2 rfl) ?_
                                  refine lv_iload_n S.1 S.2.1 dL_act_297 rfl (lv_at hl 3 rfl) ?_
                                  refine lv_iload S.1 S.2.1 dL_act_298 (lv_at hl 4 rfl) ?_
                                  obtain ⟨q23, hc21, h⟩ := d_b h
                                  refine dxri (o := q23) (vx_runV (As := [.int p2, .int p3, .int p4]) (rest := []) S (kX11_page l g hst hc21) (cwV 3 S.2.2.2.2 gL_act_X11_page rfl rfl rfl ynX11_page ⟨Nat.le_of_ble_eq_true rfl, Nat.le_of_ble_eq_true rfl⟩) (dpV hE hP hS (ci := 11) rfl (dat12 k0)) rfl rfl hl.1 rfl (lv_room (Nat.le_of_ble_eq_true rfl)) dL_act_300 ⟨Nat.le_of_ble_eq_true rfl, Nat.le_of_ble_eq_true rfl⟩) hS (fun u q9 ce H locs eo hP hS h1 h2 h3 => ?_) (fun v24 m22 H locs eo hP hS => ?_)
                                  · subst eo
                                    have h := d_s1 h
                                    obtain ⟨kx, mx⟩ := u
                                    have h := d_p2 h
                                    have hP : va_P g.1 vwCl (dws g mx) H := hP
                                    have h3 : s.vm.findClass (dEx kx) = some ce.cls := h3
                                    by_cases hk0 : kx = 3
                                    · obtain rfl : kx = 3 := hk0
                                      have h := d_t (rfl : (3 : Nat) = 3) h
                                      refine vx_catch (E := dEx 3) (name := "java/lang/IndexOutOfBoundsException") S.2.2.2.1 [] { startPc := 0, endPc := 379, handlerPc := 380, catchType := 98 } [{ startPc := 0, endPc := 379, handlerPc := 386, catchType := 102 }, { startPc := 0, endPc := 379, handlerPc := 392, catchType := 106 }] (htab.trans rfl) (fun z hz => by simp at hz) (by decide) (by decide) (S.2.2.2.2 (.classLink RL 98 "java/lang/IndexOutOfBoundsException") (List.mem_of_getElem? (i := 1) rfl)) (va_Nw.use rfl (hE.2.2.2.2.2.2.2.2.1 "java/lang/IndexOutOfBoundsException" (by decide))) h1 h2 h3 ?_
                                      refine W.eq (g2 := F0 mth 380 ls [.ref q9]) rfl ?_
                                      refine lv_astore (lv' := [(6, .ref q9), (0, .ref (dad g p0)), (1, .int p1), (2, .int p2), (3, .int p3), (4, .int p4), (5, .int p5)]) S.1 S.2.1 dL_act_380 hl (by decide) rfl (fun ls hl => ?_)
                                      refine lv_ldc2 (v := (-71)) S.1 S.2.1 S.2.2.2.1 (S.2.2.2.2 (.constantLong RL 100 (-71)) (List.mem_of_getElem? (i := 4) rfl)) dL_act_382 ?_
                                      obtain ⟨rfl, rfl⟩ := Prod.mk.inj (Option.some.inj h)
                                      exact dLtj S hr hlk hE hP hS (Nat.le_of_ble_eq_true rfl) (Nat.le_of_ble_eq_true rfl) dL_act_385
                                    · have h := d_f hk0 h
                                      by_cases hk1 : kx = 1
                                      · obtain rfl : kx = 1 := hk1
                                        have h := d_t (rfl : (1 : Nat) = 1) h
                                        refine vx_catch (E := dEx 1) (name := "java/lang/IllegalArgumentException") S.2.2.2.1 [{ startPc := 0, endPc := 379, handlerPc := 380, catchType := 98 }] { startPc := 0, endPc := 379, handlerPc := 386, catchType := 102 } [{ startPc := 0, endPc := 379, handlerPc := 392, catchType := 106 }] (htab.trans rfl) (fun z hz => by simp only [List.mem_cons, List.not_mem_nil, or_false] at hz; subst hz; exact Or.inr ⟨by decide, "java/lang/IndexOutOfBoundsException", S.2.2.2.2 (.classLink RL 98 "java/lang/IndexOutOfBoundsException") (List.mem_of_getElem? (i := 1) rfl), hE.2.2.2.2.2.2.2.2.2 (dEx 1) (by decide) "java/lang/IndexOutOfBoundsException" (by decide) (by decide)⟩) (by decide) (by decide) (S.2.2.2.2 (.classLink RL 102 "java/lang/IllegalArgumentException") (List.mem_of_getElem? (i := 2) rfl)) (va_Nw.use rfl (hE.2.2.2.2.2.2.2.2.1 "java/lang/IllegalArgumentException" (by decide))) h1 h2 h3 ?_
                                        refine W.eq (g2 := F0 mth 386 ls [.ref q9]) rfl ?_
                                        refine lv_astore (lv' := [(6, .ref q9), (0, .ref (dad g p0)), (1, .int p1), (2, .int p2), (3, .int p3), (4, .int p4), (5, .int p5)]) S.1 S.2.1 dL_act_386 hl (by decide) rfl (fun ls hl => ?_)
                                        refine lv_ldc2 (v := (-72)) S.1 S.2.1 S.2.2.2.1 (S.2.2.2.2 (.constantLong RL 104 (-72)) (List.mem_of_getElem? (i := 5) rfl)) dL_act_388 ?_
                                        obtain ⟨rfl, rfl⟩ := Prod.mk.inj (Option.some.inj h)
                                        exact dLtj S hr hlk hE hP hS (Nat.le_of_ble_eq_true rfl) (Nat.le_of_ble_eq_true rfl) dL_act_391
                                      · have h := d_f hk1 h
                                        by_cases hk2 : kx = 2
                                        · obtain rfl : kx = 2 := hk2
                                          have h := d_t (rfl : (2 : Nat) = 2) h
                                          refine vx_catch (E := dEx 2) (name := "java/lang/IllegalStateException") S.2.2.2.1 [{ startPc := 0, endPc := 379, handlerPc := 380, catchType := 98 }, { startPc := 0, endPc := 379, handlerPc := 386, catchType := 102 }] { startPc := 0, endPc := 379, handlerPc := 392, catchType := 106 } [] (htab.trans rfl) (fun z hz => by simp only [List.mem_cons, List.not_mem_nil, or_false] at hz; rcases hz with rfl | rfl; exact Or.inr ⟨by decide, "java/lang/IndexOutOfBoundsException", S.2.2.2.2 (.classLink RL 98 "java/lang/IndexOutOfBoundsException") (List.mem_of_getElem? (i := 1) rfl), hE.2.2.2.2.2.2.2.2.2 (dEx 2) (by decide) "java/lang/IndexOutOfBoundsException" (by decide) (by decide)⟩; exact Or.inr ⟨by decide, "java/lang/IllegalArgumentException", S.2.2.2.2 (.classLink RL 102 "java/lang/IllegalArgumentException") (List.mem_of_getElem? (i := 2) rfl), hE.2.2.2.2.2.2.2.2.2 (dEx 2) (by decide) "java/lang/IllegalArgumentException" (by decide) (by decide)⟩) (by decide) (by decide) (S.2.2.2.2 (.classLink RL 106 "java/lang/IllegalStateException") (List.mem_of_getElem? (i := 3) rfl)) (va_Nw.use rfl (hE.2.2.2.2.2.2.2.2.1 "java/lang/IllegalStateException" (by decide))) h1 h2 h3 ?_
                                          refine W.eq (g2 := F0 mth 392 ls [.ref q9]) rfl ?_
                                          refine lv_astore (lv' := [(6, .ref q9), (0, .ref (dad g p0)), (1, .int p1), (2, .int p2), (3, .int p3), (4, .int p4), (5, .int p5)]) S.1 S.2.1 dL_act_392 hl (by decide) rfl (fun ls hl => ?_)
                                          refine lv_ldc2 (v := (-73)) S.1 S.2.1 S.2.2.2.1 (S.2.2.2.2 (.constantLong RL 108 (-73)) (List.mem_of_getElem? (i := 6) rfl)) dL_act_394 ?_
                                          obtain ⟨rfl, rfl⟩ := Prod.mk.inj (Option.some.inj h)
                                          exact dLtj S hr hlk hE hP hS (Nat.le_of_ble_eq_true rfl) (Nat.le_of_ble_eq_true rfl) dL_act_397
                                        · have h := d_f hk2 h
                                          cases h
                                  · subst eo
                                    have h := d_s2 h
                                    have h := d_p2 h
                                    refine lv_i2l S.1 S.2.1 dL_act_303 rfl ?_
                                    refine lv_goto (tgt := 379) S.1 S.2.1 dL_act_304 (by decide) ?_
                                    obtain ⟨rfl, rfl⟩ := Prod.mk.inj (Option.some.inj h)
                                    exact dLtj S hr hlk hE hP hS (Nat.le_of_ble_eq_true rfl) (Nat.le_of_ble_eq_true rfl) dL_act_379
                              · have h := d_t cq h
                                refine lv_aload_n S.1 S.2.1 dL_act_275 rfl (lv_at hl 0 rfl) ?_
                                refine lv_iload_n S.1 S.2.1 dL_act_276 rfl (lv_at hl 2 rfl) ?_
                                refine lv_iload_n S.1 S.2.1 dL_act_277 rfl (lv_at hl 3 rfl) ?_
                                refine lv_iload S.1 S.2.1 dL_act_278 (lv_at hl 4 rfl) ?_
                                refine lv_iload S.1 S.2.1 dL_act_280 (lv_at hl 5 rfl) ?_
                                obtain ⟨q27, hc25, h⟩ := d_b h
                                refine dxri (o := q27) (vx_runV (As := [.int p2, .int p3, .int p4, .int p5]) (rest := []) S (kX11_phase l g hst hc25) (cwV 4 S.2.2.2.2 gL_act_X11_phase rfl rfl rfl ynX11_phase ⟨Nat.le_of_ble_eq_true rfl, Nat.le_of_ble_eq_true rfl⟩) (dpV hE hP hS (ci := 11) rfl (dat12 k0)) rfl rfl hl.1 rfl (lv_room (Nat.le_of_ble_eq_true rfl)) dL_act_282 ⟨Nat.le_of_ble_eq_true rfl, Nat.le_of_ble_eq_true rfl⟩) hS (fun u q9 ce H locs eo hP hS h1 h2 h3 => ?_) (fun v28 m26 H locs eo hP hS => ?_)
                                · subst eo
                                  have h := d_s1 h
                                  obtain ⟨kx, mx⟩ := u
                                  have h := d_p2 h
                                  have hP : va_P g.1 vwCl (dws g mx) H := hP
                                  have h3 : s.vm.findClass (dEx kx) = some ce.cls := h3
                                  by_cases hk0 : kx = 3
                                  · obtain rfl : kx = 3 := hk0
                                    have h := d_t (rfl : (3 : Nat) = 3) h
                                    refine vx_catch (E := dEx 3) (name := "java/lang/IndexOutOfBoundsException") S.2.2.2.1 [] { startPc := 0, endPc := 379, handlerPc := 380, catchType := 98 } [{ startPc := 0, endPc := 379, handlerPc := 386, catchType := 102 }, { startPc := 0, endPc := 379, handlerPc := 392, catchType := 106 }] (htab.trans rfl) (fun z hz => by simp at hz) (by decide) (by decide) (S.2.2.2.2 (.classLink RL 98 "java/lang/IndexOutOfBoundsException") (List.mem_of_getElem? (i := 1) rfl)) (va_Nw.use rfl (hE.2.2.2.2.2.2.2.2.1 "java/lang/IndexOutOfBoundsException" (by decide))) h1 h2 h3 ?_
                                    refine W.eq (g2 := F0 mth 380 ls [.ref q9]) rfl ?_
                                    refine lv_astore (lv' := [(6, .ref q9), (0, .ref (dad g p0)), (1, .int p1), (2, .int p2), (3, .int p3), (4, .int p4), (5, .int p5)]) S.1 S.2.1 dL_act_380 hl (by decide) rfl (fun ls hl => ?_)
                                    refine lv_ldc2 (v := (-71)) S.1 S.2.1 S.2.2.2.1 (S.2.2.2.2 (.constantLong RL 100 (-71)) (List.mem_of_getElem? (i := 4) rfl)) dL_act_382 ?_
                                    obtain ⟨rfl, rfl⟩ := Prod.mk.inj (Option.some.inj h)
                                    exact dLtj S hr hlk hE hP hS (Nat.le_of_ble_eq_true rfl) (Nat.le_of_ble_eq_true rfl) dL_act_385
                                  · have h := d_f hk0 h
                                    by_cases hk1 : kx = 1
                                    · obtain rfl : kx = 1 := hk1
                                      have h := d_t (rfl : (1 : Nat) = 1) h
                                      refine vx_catch (E := dEx 1) (name := "java/lang/IllegalArgumentException") S.2.2.2.1 [{ startPc := 0, endPc := 379, handlerPc := 380, catchType := 98 }] { startPc := 0, endPc := 379, handlerPc := 386, catchType := 102 } [{ startPc := 0, endPc := 379, handlerPc := 392, catchType := 106 }] (htab.trans rfl) (fun z hz => by simp only [List.mem_cons, List.not_mem_nil, or_false] at hz; subst hz; exact Or.inr ⟨by decide, "java/lang/IndexOutOfBoundsException", S.2.2.2.2 (.classLink RL 98 "java/lang/IndexOutOfBoundsException") (List.mem_of_getElem? (i := 1) rfl), hE.2.2.2.2.2.2.2.2.2 (dEx 1) (by decide) "java/lang/IndexOutOfBoundsException" (by decide) (by decide)⟩) (by decide) (by decide) (S.2.2.2.2 (.classLink RL 102 "java/lang/IllegalArgumentException") (List.mem_of_getElem? (i := 2) rfl)) (va_Nw.use rfl (hE.2.2.2.2.2.2.2.2.1 "java/lang/IllegalArgumentException" (by decide))) h1 h2 h3 ?_
                                      refine W.eq (g2 := F0 mth 386 ls [.ref q9]) rfl ?_
                                      refine lv_astore (lv' := [(6, .ref q9), (0, .ref (dad g p0)), (1, .int p1), (2, .int p2), (3, .int p3), (4, .int p4), (5, .int p5)]) S.1 S.2.1 dL_act_386 hl (by decide) rfl (fun ls hl => ?_)
                                      refine lv_ldc2 (v := (-72)) S.1 S.2.1 S.2.2.2.1 (S.2.2.2.2 (.constantLong RL 104 (-72)) (List.mem_of_getElem? (i := 5) rfl)) dL_act_388 ?_
                                      obtain ⟨rfl, rfl⟩ := Prod.mk.inj (Option.some.inj h)
                                      exact dLtj S hr hlk hE hP hS (Nat.le_of_ble_eq_true rfl) (Nat.le_of_ble_eq_true rfl) dL_act_391
                                    · have h := d_f hk1 h
                                      by_cases hk2 : kx = 2
                                      · obtain rfl : kx = 2 := hk2
                                        have h := d_t (rfl : (2 : Nat) = 2) h
                                        refine vx_catch (E := dEx 2) (name := "java/lang/IllegalStateException") S.2.2.2.1 [{ startPc := 0, endPc := 379, handlerPc := 380, catchType := 98 }, { startPc := 0, endPc := 379, handlerPc := 386, catchType := 102 }] { startPc := 0, endPc := 379, handlerPc := 392, catchType := 106 } [] (htab.trans rfl) (fun z hz => by simp only [List.mem_cons, List.not_mem_nil, or_false] at hz; rcases hz with rfl | rfl; exact Or.inr ⟨by decide, "java/lang/IndexOutOfBoundsException", S.2.2.2.2 (.classLink RL 98 "java/lang/IndexOutOfBoundsException") (List.mem_of_getElem? (i := 1) rfl), hE.2.2.2.2.2.2.2.2.2 (dEx 2) (by decide) "java/lang/IndexOutOfBoundsException" (by decide) (by decide)⟩; exact Or.inr ⟨by decide, "java/lang/IllegalArgumentException", S.2.2.2.2 (.classLink RL 102 "java/lang/IllegalArgumentException") (List.mem_of_getElem? (i := 2) rfl), hE.2.2.2.2.2.2.2.2.2 (dEx 2) (by decide) "java/lang/IllegalArgumentException" (by decide) (by decide)⟩) (by decide) (by decide) (S.2.2.2.2 (.classLink RL 106 "java/lang/IllegalStateException") (List.mem_of_getElem? (i := 3) rfl)) (va_Nw.use rfl (hE.2.2.2.2.2.2.2.2.1 "java/lang/IllegalStateException" (by decide))) h1 h2 h3 ?_
                                        refine W.eq (g2 := F0 mth 392 ls [.ref q9]) rfl ?_
                                        refine lv_astore (lv' := [(6, .ref q9), (0, .ref (dad g p0)), (1, .int p1), (2, .int p2), (3, .int p3), (4, .int p4), (5, .int p5)]) S.1 S.2.1 dL_act_392 hl (by decide) rfl (fun ls hl => ?_)
                                        refine lv_ldc2 (v := (-73)) S.1 S.2.1 S.2.2.2.1 (S.2.2.2.2 (.constantLong RL 108 (-73)) (List.mem_of_getElem? (i := 6) rfl)) dL_act_394 ?_
                                        obtain ⟨rfl, rfl⟩ := Prod.mk.inj (Option.some.inj h)
                                        exact dLtj S hr hlk hE hP hS (Nat.le_of_ble_eq_true rfl) (Nat.le_of_ble_eq_true rfl) dL_act_397
                                      · have h := d_f hk2 h
                                        cases h
                                · subst eo
                                  have h := d_s2 h
                                  have h := d_p2 h
                                  refine lv_i2l S.1 S.2.1 dL_act_285 rfl ?_
                                  refine lv_goto (tgt := 379) S.1 S.2.1 dL_act_286 (by decide) ?_
                                  obtain ⟨rfl, rfl⟩ := Prod.mk.inj (Option.some.inj h)
                                  exact dLtj S hr hlk hE hP hS (Nat.le_of_ble_eq_true rfl) (Nat.le_of_ble_eq_true rfl) dL_act_379
                            · have h := d_t cq h
                              refine lv_aload_n S.1 S.2.1 dL_act_259 rfl (lv_at hl 0 rfl) ?_
                              refine lv_iload_n S.1 S.2.1 dL_act_260 rfl (lv_at hl 2 rfl) ?_
                              refine lv_iload_n S.1 S.2.1 dL_act_261 rfl (lv_at hl 3 rfl) ?_
                              obtain ⟨q31, hc29, h⟩ := d_b h
                              refine dxri (o := q31) (vx_runV (As := [.int p2, .int p3]) (rest := []) S (kX11_fault l g hst hc29) (cwV 2 S.2.2.2.2 gL_act_X11_fault rfl rfl rfl ynX11_fault ⟨Nat.le_of_ble_eq_true rfl, Nat.le_of_ble_eq_true rfl⟩) (dpV hE hP hS (ci := 11) rfl (dat12 k0)) rfl rfl hl.1 rfl (lv_room (Nat.le_of_ble_eq_true rfl)) dL_act_262 ⟨Nat.le_of_ble_eq_true rfl, Nat.le_of_ble_eq_true rfl⟩) hS (fun u q9 ce H locs eo hP hS h1 h2 h3 => ?_) (fun v32 m30 H locs eo hP hS => ?_)
                              · subst eo
                                have h := d_s1 h
                                obtain ⟨kx, mx⟩ := u
                                have h := d_p2 h
                                have hP : va_P g.1 vwCl (dws g mx) H := hP
                                have h3 : s.vm.findClass (dEx kx) = some ce.cls := h3
                                by_cases hk0 : kx = 3
                                · obtain rfl : kx = 3 := hk0
                                  have h := d_t (rfl : (3 : Nat) = 3) h
                                  refine vx_catch (E := dEx 3) (name := "java/lang/IndexOutOfBoundsException") S.2.2.2.1 [] { startPc := 0, endPc := 379, handlerPc := 380, catchType := 98 } [{ startPc := 0, endPc := 379, handlerPc := 386, catchType := 102 }, { startPc := 0, endPc := 379, handlerPc := 392, catchType := 106 }] (htab.trans rfl) (fun z hz => by simp at hz) (by decide) (by decide) (S.2.2.2.2 (.classLink RL 98 "java/lang/IndexOutOfBoundsException") (List.mem_of_getElem? (i := 1) rfl)) (va_Nw.use rfl (hE.2.2.2.2.2.2.2.2.1 "java/lang/IndexOutOfBoundsException" (by decide))) h1 h2 h3 ?_
                                  refine W.eq (g2 := F0 mth 380 ls [.ref q9]) rfl ?_
                                  refine lv_astore (lv' := [(6, .ref q9), (0, .ref (dad g p0)), (1, .int p1), (2, .int p2), (3, .int p3), (4, .int p4), (5, .int p5)]) S.1 S.2.1 dL_act_380 hl (by decide) rfl (fun ls hl => ?_)
                                  refine lv_ldc2 (v := (-71)) S.1 S.2.1 S.2.2.2.1 (S.2.2.2.2 (.constantLong RL 100 (-71)) (List.mem_of_getElem? (i := 4) rfl)) dL_act_382 ?_
                                  obtain ⟨rfl, rfl⟩ := Prod.mk.inj (Option.some.inj h)
                                  exact dLtj S hr hlk hE hP hS (Nat.le_of_ble_eq_true rfl) (Nat.le_of_ble_eq_true rfl) dL_act_385
                                · have h := d_f hk0 h
                                  by_cases hk1 : kx = 1
                                  · obtain rfl : kx = 1 := hk1
                                    have h := d_t (rfl : (1 : Nat) = 1) h
                                    refine vx_catch (E := dEx 1) (name := "java/lang/IllegalArgumentException") S.2.2.2.1 [{ startPc := 0, endPc := 379, handlerPc := 380, catchType := 98 }] { startPc := 0, endPc := 379, handlerPc := 386, catchType := 102 } [{ startPc := 0, endPc := 379, handlerPc := 392, catchType := 106 }] (htab.trans rfl) (fun z hz => by simp only [List.mem_cons, List.not_mem_nil, or_false] at hz; subst hz; exact Or.inr ⟨by decide, "java/lang/IndexOutOfBoundsException", S.2.2.2.2 (.classLink RL 98 "java/lang/IndexOutOfBoundsException") (List.mem_of_getElem? (i := 1) rfl), hE.2.2.2.2.2.2.2.2.2 (dEx 1) (by decide) "java/lang/IndexOutOfBoundsException" (by decide) (by decide)⟩) (by decide) (by decide) (S.2.2.2.2 (.classLink RL 102 "java/lang/IllegalArgumentException") (List.mem_of_getElem? (i := 2) rfl)) (va_Nw.use rfl (hE.2.2.2.2.2.2.2.2.1 "java/lang/IllegalArgumentException" (by decide))) h1 h2 h3 ?_
                                    refine W.eq (g2 := F0 mth 386 ls [.ref q9]) rfl ?_
                                    refine lv_astore (lv' := [(6, .ref q9), (0, .ref (dad g p0)), (1, .int p1), (2, .int p2), (3, .int p3), (4, .int p4), (5, .int p5)]) S.1 S.2.1 dL_act_386 hl (by decide) rfl (fun ls hl => ?_)
                                    refine lv_ldc2 (v := (-72)) S.1 S.2.1 S.2.2.2.1 (S.2.2.2.2 (.constantLong RL 104 (-72)) (List.mem_of_getElem? (i := 5) rfl)) dL_act_388 ?_
                                    obtain ⟨rfl, rfl⟩ := Prod.mk.inj (Option.some.inj h)
                                    exact dLtj S hr hlk hE hP hS (Nat.le_of_ble_eq_true rfl) (Nat.le_of_ble_eq_true rfl) dL_act_391
                                  · have h := d_f hk1 h
                                    by_cases hk2 : kx = 2
                                    · obtain rfl : kx = 2 := hk2
                                      have h := d_t (rfl : (2 : Nat) = 2) h
                                      refine vx_catch (E := dEx 2) (name := "java/lang/IllegalStateException") S.2.2.2.1 [{ startPc := 0, endPc := 379, handlerPc := 380, catchType := 98 }, { startPc := 0, endPc := 379, handlerPc := 386, catchType := 102 }] { startPc := 0, endPc := 379, handlerPc := 392, catchType := 106 } [] (htab.trans rfl) (fun z hz => by simp only [List.mem_cons, List.not_mem_nil, or_false] at hz; rcases hz with rfl | rfl; exact Or.inr ⟨by decide, "java/lang/IndexOutOfBoundsException", S.2.2.2.2 (.classLink RL 98 "java/lang/IndexOutOfBoundsException") (List.mem_of_getElem? (i := 1) rfl), hE.2.2.2.2.2.2.2.2.2 (dEx 2) (by decide) "java/lang/IndexOutOfBoundsException" (by decide) (by decide)⟩; exact Or.inr ⟨by decide, "java/lang/IllegalArgumentException", S.2.2.2.2 (.classLink RL 102 "java/lang/IllegalArgumentException") (List.mem_of_getElem? (i := 2) rfl), hE.2.2.2.2.2.2.2.2.2 (dEx 2) (by decide) "java/lang/IllegalArgumentException" (by decide) (by decide)⟩) (by decide) (by decide) (S.2.2.2.2 (.classLink RL 106 "java/lang/IllegalStateException") (List.mem_of_getElem? (i := 3) rfl)) (va_Nw.use rfl (hE.2.2.2.2.2.2.2.2.1 "java/lang/IllegalStateException" (by decide))) h1 h2 h3 ?_
                                      refine W.eq (g2 := F0 mth 392 ls [.ref q9]) rfl ?_
                                      refine lv_astore (lv' := [(6, .ref q9), (0, .ref (dad g p0)), (1, .int p1), (2, .int p2), (3, .int p3), (4, .int p4), (5, .int p5)]) S.1 S.2.1 dL_act_392 hl (by decide) rfl (fun ls hl => ?_)
                                      refine lv_ldc2 (v := (-73)) S.1 S.2.1 S.2.2.2.1 (S.2.2.2.2 (.constantLong RL 108 (-73)) (List.mem_of_getElem? (i := 6) rfl)) dL_act_394 ?_
                                      obtain ⟨rfl, rfl⟩ := Prod.mk.inj (Option.some.inj h)
                                      exact dLtj S hr hlk hE hP hS (Nat.le_of_ble_eq_true rfl) (Nat.le_of_ble_eq_true rfl) dL_act_397
                                    · have h := d_f hk2 h
                                      cases h
                              · subst eo
                                have h := d_s2 h
                                have h := d_p2 h
                                refine lv_i2l S.1 S.2.1 dL_act_265 rfl ?_
                                refine lv_goto (tgt := 379) S.1 S.2.1 dL_act_266 (by decide) ?_
                                obtain ⟨rfl, rfl⟩ := Prod.mk.inj (Option.some.inj h)
                                exact dLtj S hr hlk hE hP hS (Nat.le_of_ble_eq_true rfl) (Nat.le_of_ble_eq_true rfl) dL_act_379
                          · have h := d_t cq h
                            refine lv_aload_n S.1 S.2.1 dL_act_241 rfl (lv_at hl 0 rfl) ?_
                            refine lv_iload_n S.1 S.2.1 dL_act_242 rfl (lv_at hl 2 rfl) ?_
                            refine lv_iload_n S.1 S.2.1 dL_act_243 rfl (lv_at hl 3 rfl) ?_
                            refine lv_iload S.1 S.2.1 dL_act_244 (lv_at hl 4 rfl) ?_
                            obtain ⟨q35, hc33, h⟩ := d_b h
                            refine dxri (o := q35) (vx_runV (As := [.int p2, .int p3, .int p4]) (rest := []) S (kX11_at l g hst hc33) (cwV 3 S.2.2.2.2 gL_act_X11_at rfl rfl rfl ynX11_at ⟨Nat.le_of_ble_eq_true rfl, Nat.le_of_ble_eq_true rfl⟩) (dpV hE hP hS (ci := 11) rfl (dat12 k0)) rfl rfl hl.1 rfl (lv_room (Nat.le_of_ble_eq_true rfl)) dL_act_246 ⟨Nat.le_of_ble_eq_true rfl, Nat.le_of_ble_eq_true rfl⟩) hS (fun u q9 ce H locs eo hP hS h1 h2 h3 => ?_) (fun v36 m34 H locs eo hP hS => ?_)
                            · subst eo
                              have h := d_s1 h
                              obtain ⟨kx, mx⟩ := u
                              have h := d_p2 h
                              have hP : va_P g.1 vwCl (dws g mx) H := hP
                              have h3 : s.vm.findClass (dEx kx) = some ce.cls := h3
                              by_cases hk0 : kx = 3
                              · obtain rfl : kx = 3 := hk0
                                have h := d_t (rfl : (3 : Nat) = 3) h
                                refine vx_catch (E := dEx 3) (name := "java/lang/IndexOutOfBoundsException") S.2.2.2.1 [] { startPc := 0, endPc := 379, handlerPc := 380, catchType := 98 } [{ startPc := 0, endPc := 379, handlerPc := 386, catchType := 102 }, { startPc := 0, endPc := 379, handlerPc := 392, catchType := 106 }] (htab.trans rfl) (fun z hz => by simp at hz) (by decide) (by decide) (S.2.2.2.2 (.classLink RL 98 "java/lang/IndexOutOfBoundsException") (List.mem_of_getElem? (i := 1) rfl)) (va_Nw.use rfl (hE.2.2.2.2.2.2.2.2.1 "java/lang/IndexOutOfBoundsException" (by decide))) h1 h2 h3 ?_
                                refine W.eq (g2 := F0 mth 380 ls [.ref q9]) rfl ?_
                                refine lv_astore (lv' := [(6, .ref q9), (0, .ref (dad g p0)), (1, .int p1), (2, .int p2), (3, .int p3), (4, .int p4), (5, .int p5)]) S.1 S.2.1 dL_act_380 hl (by decide) rfl (fun ls hl => ?_)
                                refine lv_ldc2 (v := (-71)) S.1 S.2.1 S.2.2.2.1 (S.2.2.2.2 (.constantLong RL 100 (-71)) (List.mem_of_getElem? (i := 4) rfl)) dL_act_382 ?_
                                obtain ⟨rfl, rfl⟩ := Prod.mk.inj (Option.some.inj h)
                                exact dLtj S hr hlk hE hP hS (Nat.le_of_ble_eq_true rfl) (Nat.le_of_ble_eq_true rfl) dL_act_385
                              · have h := d_f hk0 h
                                by_cases hk1 : kx = 1
                                · obtain rfl : kx = 1 := hk1
                                  have h := d_t (rfl : (1 : Nat) = 1) h
                                  refine vx_catch (E := dEx 1) (name := "java/lang/IllegalArgumentException") S.2.2.2.1 [{ startPc := 0, endPc := 379, handlerPc := 380, catchType := 98 }] { startPc := 0, endPc := 379, handlerPc := 386, catchType := 102 } [{ startPc := 0, endPc := 379, handlerPc := 392, catchType := 106 }] (htab.trans rfl) (fun z hz => by simp only [List.mem_cons, List.not_mem_nil, or_false] at hz; subst hz; exact Or.inr ⟨by decide, "java/lang/IndexOutOfBoundsException", S.2.2.2.2 (.classLink RL 98 "java/lang/IndexOutOfBoundsException") (List.mem_of_getElem? (i := 1) rfl), hE.2.2.2.2.2.2.2.2.2 (dEx 1) (by decide) "java/lang/IndexOutOfBoundsException" (by decide) (by decide)⟩) (by decide) (by decide) (S.2.2.2.2 (.classLink RL 102 "java/lang/IllegalArgumentException") (List.mem_of_getElem? (i := 2) rfl)) (va_Nw.use rfl (hE.2.2.2.2.2.2.2.2.1 "java/lang/IllegalArgumentException" (by decide))) h1 h2 h3 ?_
                                  refine W.eq (g2 := F0 mth 386 ls [.ref q9]) rfl ?_
                                  refine lv_astore (lv' := [(6, .ref q9), (0, .ref (dad g p0)), (1, .int p1), (2, .int p2), (3, .int p3), (4, .int p4), (5, .int p5)]) S.1 S.2.1 dL_act_386 hl (by decide) rfl (fun ls hl => ?_)
                                  refine lv_ldc2 (v := (-72)) S.1 S.2.1 S.2.2.2.1 (S.2.2.2.2 (.constantLong RL 104 (-72)) (List.mem_of_getElem? (i := 5) rfl)) dL_act_388 ?_
                                  obtain ⟨rfl, rfl⟩ := Prod.mk.inj (Option.some.inj h)
                                  exact dLtj S hr hlk hE hP hS (Nat.le_of_ble_eq_true rfl) (Nat.le_of_ble_eq_true rfl) dL_act_391
                                · have h := d_f hk1 h
                                  by_cases hk2 : kx = 2
                                  · obtain rfl : kx = 2 := hk2
                                    have h := d_t (rfl : (2 : Nat) = 2) h
                                    refine vx_catch (E := dEx 2) (name := "java/lang/IllegalStateException") S.2.2.2.1 [{ startPc := 0, endPc := 379, handlerPc := 380, catchType := 98 }, { startPc := 0, endPc := 379, handlerPc := 386, catchType := 102 }] { startPc := 0, endPc := 379, handlerPc := 392, catchType := 106 } [] (htab.trans rfl) (fun z hz => by simp only [List.mem_cons, List.not_mem_nil, or_false] at hz; rcases hz with rfl | rfl; exact Or.inr ⟨by decide, "java/lang/IndexOutOfBoundsException", S.2.2.2.2 (.classLink RL 98 "java/lang/IndexOutOfBoundsException") (List.mem_of_getElem? (i := 1) rfl), hE.2.2.2.2.2.2.2.2.2 (dEx 2) (by decide) "java/lang/IndexOutOfBoundsException" (by decide) (by decide)⟩; exact Or.inr ⟨by decide, "java/lang/IllegalArgumentException", S.2.2.2.2 (.classLink RL 102 "java/lang/IllegalArgumentException") (List.mem_of_getElem? (i := 2) rfl), hE.2.2.2.2.2.2.2.2.2 (dEx 2) (by decide) "java/lang/IllegalArgumentException" (by decide) (by decide)⟩) (by decide) (by decide) (S.2.2.2.2 (.classLink RL 106 "java/lang/IllegalStateException") (List.mem_of_getElem? (i := 3) rfl)) (va_Nw.use rfl (hE.2.2.2.2.2.2.2.2.1 "java/lang/IllegalStateException" (by decide))) h1 h2 h3 ?_
                                    refine W.eq (g2 := F0 mth 392 ls [.ref q9]) rfl ?_
                                    refine lv_astore (lv' := [(6, .ref q9), (0, .ref (dad g p0)), (1, .int p1), (2, .int p2), (3, .int p3), (4, .int p4), (5, .int p5)]) S.1 S.2.1 dL_act_392 hl (by decide) rfl (fun ls hl => ?_)
                                    refine lv_ldc2 (v := (-73)) S.1 S.2.1 S.2.2.2.1 (S.2.2.2.2 (.constantLong RL 108 (-73)) (List.mem_of_getElem? (i := 6) rfl)) dL_act_394 ?_
                                    obtain ⟨rfl, rfl⟩ := Prod.mk.inj (Option.some.inj h)
                                    exact dLtj S hr hlk hE hP hS (Nat.le_of_ble_eq_true rfl) (Nat.le_of_ble_eq_true rfl) dL_act_397
                                  · have h := d_f hk2 h
                                    cases h
                            · subst eo
                              have h := d_s2 h
                              have h := d_p2 h
                              refine lv_i2l S.1 S.2.1 dL_act_249 rfl ?_
                              refine lv_goto (tgt := 379) S.1 S.2.1 dL_act_250 (by decide) ?_
                              obtain ⟨rfl, rfl⟩ := Prod.mk.inj (Option.some.inj h)
                              exact dLtj S hr hlk hE hP hS (Nat.le_of_ble_eq_true rfl) (Nat.le_of_ble_eq_true rfl) dL_act_379
                        · have h := d_t cq h
                          refine lv_aload_n S.1 S.2.1 dL_act_227 rfl (lv_at hl 0 rfl) ?_
                          refine lv_iload_n S.1 S.2.1 dL_act_228 rfl (lv_at hl 2 rfl) ?_
                          obtain ⟨q39, hc37, h⟩ := d_b h
                          refine dxrj (o := q39) (vx_runV (As := [.int p2]) (rest := []) S (kX11_walking l g hst hc37) (cwV 1 S.2.2.2.2 gL_act_X11_walking rfl rfl rfl ynX11_walking ⟨Nat.le_of_ble_eq_true rfl, Nat.le_of_ble_eq_true rfl⟩) (dpV hE hP hS (ci := 11) rfl (dat12 k0)) rfl rfl hl.1 rfl (lv_room (Nat.le_of_ble_eq_true rfl)) dL_act_229 ⟨Nat.le_of_ble_eq_true rfl, Nat.le_of_ble_eq_true rfl⟩) hS (fun u q9 ce H locs eo hP hS h1 h2 h3 => ?_) (fun v40 m38 H locs eo hP hS => ?_)
                          · subst eo
                            have h := d_s1 h
                            obtain ⟨kx, mx⟩ := u
                            have h := d_p2 h
                            have hP : va_P g.1 vwCl (dws g mx) H := hP
                            have h3 : s.vm.findClass (dEx kx) = some ce.cls := h3
                            by_cases hk0 : kx = 3
                            · obtain rfl : kx = 3 := hk0
                              have h := d_t (rfl : (3 : Nat) = 3) h
                              refine vx_catch (E := dEx 3) (name := "java/lang/IndexOutOfBoundsException") S.2.2.2.1 [] { startPc := 0, endPc := 379, handlerPc := 380, catchType := 98 } [{ startPc := 0, endPc := 379, handlerPc := 386, catchType := 102 }, { startPc := 0, endPc := 379, handlerPc := 392, catchType := 106 }] (htab.trans rfl) (fun z hz => by simp at hz) (by decide) (by decide) (S.2.2.2.2 (.classLink RL 98 "java/lang/IndexOutOfBoundsException") (List.mem_of_getElem? (i := 1) rfl)) (va_Nw.use rfl (hE.2.2.2.2.2.2.2.2.1 "java/lang/IndexOutOfBoundsException" (by decide))) h1 h2 h3 ?_
                              refine W.eq (g2 := F0 mth 380 ls [.ref q9]) rfl ?_
                              refine lv_astore (lv' := [(6, .ref q9), (0, .ref (dad g p0)), (1, .int p1), (2, .int p2), (3, .int p3), (4, .int p4), (5, .int p5)]) S.1 S.2.1 dL_act_380 hl (by decide) rfl (fun ls hl => ?_)
                              refine lv_ldc2 (v := (-71)) S.1 S.2.1 S.2.2.2.1 (S.2.2.2.2 (.constantLong RL 100 (-71)) (List.mem_of_getElem? (i := 4) rfl)) dL_act_382 ?_
                              obtain ⟨rfl, rfl⟩ := Prod.mk.inj (Option.some.inj h)
                              exact dLtj S hr hlk hE hP hS (Nat.le_of_ble_eq_true rfl) (Nat.le_of_ble_eq_true rfl) dL_act_385
                            · have h := d_f hk0 h
                              by_cases hk1 : kx = 1
                              · obtain rfl : kx = 1 := hk1
                                have h := d_t (rfl : (1 : Nat) = 1) h
                                refine vx_catch (E := dEx 1) (name := "java/lang/IllegalArgumentException") S.2.2.2.1 [{ startPc := 0, endPc := 379, handlerPc := 380, catchType := 98 }] { startPc := 0, endPc := 379, handlerPc := 386, catchType := 102 } [{ startPc := 0, endPc := 379, handlerPc := 392, catchType := 106 }] (htab.trans rfl) (fun z hz => by simp only [List.mem_cons, List.not_mem_nil, or_false] at hz; subst hz; exact Or.inr ⟨by decide, "java/lang/IndexOutOfBoundsException", S.2.2.2.2 (.classLink RL 98 "java/lang/IndexOutOfBoundsException") (List.mem_of_getElem? (i := 1) rfl), hE.2.2.2.2.2.2.2.2.2 (dEx 1) (by decide) "java/lang/IndexOutOfBoundsException" (by decide) (by decide)⟩) (by decide) (by decide) (S.2.2.2.2 (.classLink RL 102 "java/lang/IllegalArgumentException") (List.mem_of_getElem? (i := 2) rfl)) (va_Nw.use rfl (hE.2.2.2.2.2.2.2.2.1 "java/lang/IllegalArgumentException" (by decide))) h1 h2 h3 ?_
                                refine W.eq (g2 := F0 mth 386 ls [.ref q9]) rfl ?_
                                refine lv_astore (lv' := [(6, .ref q9), (0, .ref (dad g p0)), (1, .int p1), (2, .int p2), (3, .int p3), (4, .int p4), (5, .int p5)]) S.1 S.2.1 dL_act_386 hl (by decide) rfl (fun ls hl => ?_)
                                refine lv_ldc2 (v := (-72)) S.1 S.2.1 S.2.2.2.1 (S.2.2.2.2 (.constantLong RL 104 (-72)) (List.mem_of_getElem? (i := 5) rfl)) dL_act_388 ?_
                                obtain ⟨rfl, rfl⟩ := Prod.mk.inj (Option.some.inj h)
                                exact dLtj S hr hlk hE hP hS (Nat.le_of_ble_eq_true rfl) (Nat.le_of_ble_eq_true rfl) dL_act_391
                              · have h := d_f hk1 h
                                by_cases hk2 : kx = 2
                                · obtain rfl : kx = 2 := hk2
                                  have h := d_t (rfl : (2 : Nat) = 2) h
                                  refine vx_catch (E := dEx 2) (name := "java/lang/IllegalStateException") S.2.2.2.1 [{ startPc := 0, endPc := 379, handlerPc := 380, catchType := 98 }, { startPc := 0, endPc := 379, handlerPc := 386, catchType := 102 }] { startPc := 0, endPc := 379, handlerPc := 392, catchType := 106 } [] (htab.trans rfl) (fun z hz => by simp only [List.mem_cons, List.not_mem_nil, or_false] at hz; rcases hz with rfl | rfl; exact Or.inr ⟨by decide, "java/lang/IndexOutOfBoundsException", S.2.2.2.2 (.classLink RL 98 "java/lang/IndexOutOfBoundsException") (List.mem_of_getElem? (i := 1) rfl), hE.2.2.2.2.2.2.2.2.2 (dEx 2) (by decide) "java/lang/IndexOutOfBoundsException" (by decide) (by decide)⟩; exact Or.inr ⟨by decide, "java/lang/IllegalArgumentException", S.2.2.2.2 (.classLink RL 102 "java/lang/IllegalArgumentException") (List.mem_of_getElem? (i := 2) rfl), hE.2.2.2.2.2.2.2.2.2 (dEx 2) (by decide) "java/lang/IllegalArgumentException" (by decide) (by decide)⟩) (by decide) (by decide) (S.2.2.2.2 (.classLink RL 106 "java/lang/IllegalStateException") (List.mem_of_getElem? (i := 3) rfl)) (va_Nw.use rfl (hE.2.2.2.2.2.2.2.2.1 "java/lang/IllegalStateException" (by decide))) h1 h2 h3 ?_
                                  refine W.eq (g2 := F0 mth 392 ls [.ref q9]) rfl ?_
                                  refine lv_astore (lv' := [(6, .ref q9), (0, .ref (dad g p0)), (1, .int p1), (2, .int p2), (3, .int p3), (4, .int p4), (5, .int p5)]) S.1 S.2.1 dL_act_392 hl (by decide) rfl (fun ls hl => ?_)
                                  refine lv_ldc2 (v := (-73)) S.1 S.2.1 S.2.2.2.1 (S.2.2.2.2 (.constantLong RL 108 (-73)) (List.mem_of_getElem? (i := 6) rfl)) dL_act_394 ?_
                                  obtain ⟨rfl, rfl⟩ := Prod.mk.inj (Option.some.inj h)
                                  exact dLtj S hr hlk hE hP hS (Nat.le_of_ble_eq_true rfl) (Nat.le_of_ble_eq_true rfl) dL_act_397
                                · have h := d_f hk2 h
                                  cases h
                          · subst eo
                            have h := d_s2 h
                            have h := d_p2 h
                            refine lv_goto (tgt := 379) S.1 S.2.1 dL_act_232 (by decide) ?_
                            obtain ⟨rfl, rfl⟩ := Prod.mk.inj (Option.some.inj h)
                            exact dLtj S hr hlk hE hP hS (Nat.le_of_ble_eq_true rfl) (Nat.le_of_ble_eq_true rfl) dL_act_379
                      · have h := d_t cq h
                        refine lv_aload_n S.1 S.2.1 dL_act_211 rfl (lv_at hl 0 rfl) ?_
                        refine lv_iload_n S.1 S.2.1 dL_act_212 rfl (lv_at hl 2 rfl) ?_
                        refine lv_iload_n S.1 S.2.1 dL_act_213 rfl (lv_at hl 3 rfl) ?_
                        obtain ⟨q43, hc41, h⟩ := d_b h
                        refine dxri (o := q43) (vx_runV (As := [.int p2, .int p3]) (rest := []) S (kX11_place l g hst hc41) (cwV 2 S.2.2.2.2 gL_act_X11_place rfl rfl rfl ynX11_place ⟨Nat.le_of_ble_eq_true rfl, Nat.le_of_ble_eq_true rfl⟩) (dpV hE hP hS (ci := 11) rfl (dat12 k0)) rfl rfl hl.1 rfl (lv_room (Nat.le_of_ble_eq_true rfl)) dL_act_214 ⟨Nat.le_of_ble_eq_true rfl, Nat.le_of_ble_eq_true rfl⟩) hS (fun u q9 ce H locs eo hP hS h1 h2 h3 => ?_) (fun v44 m42 H locs eo hP hS => ?_)
                        · subst eo
                          have h := d_s1 h
                          obtain ⟨kx, mx⟩ := u
                          have h := d_p2 h
                          have hP : va_P g.1 vwCl (dws g mx) H := hP
                          have h3 : s.vm.findClass (dEx kx) = some ce.cls := h3
                          by_cases hk0 : kx = 3
                          · obtain rfl : kx = 3 := hk0
                            have h := d_t (rfl : (3 : Nat) = 3) h
                            refine vx_catch (E := dEx 3) (name := "java/lang/IndexOutOfBoundsException") S.2.2.2.1 [] { startPc := 0, endPc := 379, handlerPc := 380, catchType := 98 } [{ startPc := 0, endPc := 379, handlerPc := 386, catchType := 102 }, { startPc := 0, endPc := 379, handlerPc := 392, catchType := 106 }] (htab.trans rfl) (fun z hz => by simp at hz) (by decide) (by decide) (S.2.2.2.2 (.classLink RL 98 "java/lang/IndexOutOfBoundsException") (List.mem_of_getElem? (i := 1) rfl)) (va_Nw.use rfl (hE.2.2.2.2.2.2.2.2.1 "java/lang/IndexOutOfBoundsException" (by decide))) h1 h2 h3 ?_
                            refine W.eq (g2 := F0 mth 380 ls [.ref q9]) rfl ?_
                            refine lv_astore (lv' := [(6, .ref q9), (0, .ref (dad g p0)), (1, .int p1), (2, .int p2), (3, .int p3), (4, .int p4), (5, .int p5)]) S.1 S.2.1 dL_act_380 hl (by decide) rfl (fun ls hl => ?_)
                            refine lv_ldc2 (v := (-71)) S.1 S.2.1 S.2.2.2.1 (S.2.2.2.2 (.constantLong RL 100 (-71)) (List.mem_of_getElem? (i := 4) rfl)) dL_act_382 ?_
                            obtain ⟨rfl, rfl⟩ := Prod.mk.inj (Option.some.inj h)
                            exact dLtj S hr hlk hE hP hS (Nat.le_of_ble_eq_true rfl) (Nat.le_of_ble_eq_true rfl) dL_act_385
                          · have h := d_f hk0 h
                            by_cases hk1 : kx = 1
                            · obtain rfl : kx = 1 := hk1
                              have h := d_t (rfl : (1 : Nat) = 1) h
                              refine vx_catch (E := dEx 1) (name := "java/lang/IllegalArgumentException") S.2.2.2.1 [{ startPc := 0, endPc := 379, handlerPc := 380, catchType := 98 }] { startPc := 0, endPc := 379, handlerPc := 386, catchType := 102 } [{ startPc := 0, endPc := 379, handlerPc := 392, catchType := 106 }] (htab.trans rfl) (fun z hz => by simp only [List.mem_cons, List.not_mem_nil, or_false] at hz; subst hz; exact Or.inr ⟨by decide, "java/lang/IndexOutOfBoundsException", S.2.2.2.2 (.classLink RL 98 "java/lang/IndexOutOfBoundsException") (List.mem_of_getElem? (i := 1) rfl), hE.2.2.2.2.2.2.2.2.2 (dEx 1) (by decide) "java/lang/IndexOutOfBoundsException" (by decide) (by decide)⟩) (by decide) (by decide) (S.2.2.2.2 (.classLink RL 102 "java/lang/IllegalArgumentException") (List.mem_of_getElem? (i := 2) rfl)) (va_Nw.use rfl (hE.2.2.2.2.2.2.2.2.1 "java/lang/IllegalArgumentException" (by decide))) h1 h2 h3 ?_
                              refine W.eq (g2 := F0 mth 386 ls [.ref q9]) rfl ?_
                              refine lv_astore (lv' := [(6, .ref q9), (0, .ref (dad g p0)), (1, .int p1), (2, .int p2), (3, .int p3), (4, .int p4), (5, .int p5)]) S.1 S.2.1 dL_act_386 hl (by decide) rfl (fun ls hl => ?_)
                              refine lv_ldc2 (v := (-72)) S.1 S.2.1 S.2.2.2.1 (S.2.2.2.2 (.constantLong RL 104 (-72)) (List.mem_of_getElem? (i := 5) rfl)) dL_act_388 ?_
                              obtain ⟨rfl, rfl⟩ := Prod.mk.inj (Option.some.inj h)
                              exact dLtj S hr hlk hE hP hS (Nat.le_of_ble_eq_true rfl) (Nat.le_of_ble_eq_true rfl) dL_act_391
                            · have h := d_f hk1 h
                              by_cases hk2 : kx = 2
                              · obtain rfl : kx = 2 := hk2
                                have h := d_t (rfl : (2 : Nat) = 2) h
                                refine vx_catch (E := dEx 2) (name := "java/lang/IllegalStateException") S.2.2.2.1 [{ startPc := 0, endPc := 379, handlerPc := 380, catchType := 98 }, { startPc := 0, endPc := 379, handlerPc := 386, catchType := 102 }] { startPc := 0, endPc := 379, handlerPc := 392, catchType := 106 } [] (htab.trans rfl) (fun z hz => by simp only [List.mem_cons, List.not_mem_nil, or_false] at hz; rcases hz with rfl | rfl; exact Or.inr ⟨by decide, "java/lang/IndexOutOfBoundsException", S.2.2.2.2 (.classLink RL 98 "java/lang/IndexOutOfBoundsException") (List.mem_of_getElem? (i := 1) rfl), hE.2.2.2.2.2.2.2.2.2 (dEx 2) (by decide) "java/lang/IndexOutOfBoundsException" (by decide) (by decide)⟩; exact Or.inr ⟨by decide, "java/lang/IllegalArgumentException", S.2.2.2.2 (.classLink RL 102 "java/lang/IllegalArgumentException") (List.mem_of_getElem? (i := 2) rfl), hE.2.2.2.2.2.2.2.2.2 (dEx 2) (by decide) "java/lang/IllegalArgumentException" (by decide) (by decide)⟩) (by decide) (by decide) (S.2.2.2.2 (.classLink RL 106 "java/lang/IllegalStateException") (List.mem_of_getElem? (i := 3) rfl)) (va_Nw.use rfl (hE.2.2.2.2.2.2.2.2.1 "java/lang/IllegalStateException" (by decide))) h1 h2 h3 ?_
                                refine W.eq (g2 := F0 mth 392 ls [.ref q9]) rfl ?_
                                refine lv_astore (lv' := [(6, .ref q9), (0, .ref (dad g p0)), (1, .int p1), (2, .int p2), (3, .int p3), (4, .int p4), (5, .int p5)]) S.1 S.2.1 dL_act_392 hl (by decide) rfl (fun ls hl => ?_)
                                refine lv_ldc2 (v := (-73)) S.1 S.2.1 S.2.2.2.1 (S.2.2.2.2 (.constantLong RL 108 (-73)) (List.mem_of_getElem? (i := 6) rfl)) dL_act_394 ?_
                                obtain ⟨rfl, rfl⟩ := Prod.mk.inj (Option.some.inj h)
                                exact dLtj S hr hlk hE hP hS (Nat.le_of_ble_eq_true rfl) (Nat.le_of_ble_eq_true rfl) dL_act_397
                              · have h := d_f hk2 h
                                cases h
                        · subst eo
                          have h := d_s2 h
                          have h := d_p2 h
                          refine lv_i2l S.1 S.2.1 dL_act_217 rfl ?_
                          refine lv_goto (tgt := 379) S.1 S.2.1 dL_act_218 (by decide) ?_
                          obtain ⟨rfl, rfl⟩ := Prod.mk.inj (Option.some.inj h)
                          exact dLtj S hr hlk hE hP hS (Nat.le_of_ble_eq_true rfl) (Nat.le_of_ble_eq_true rfl) dL_act_379
                    · have h := d_t cq h
                      refine lv_aload_n S.1 S.2.1 dL_act_197 rfl (lv_at hl 0 rfl) ?_
                      obtain ⟨q47, hc45, h⟩ := d_b h
                      refine dxri (o := q47) (vx_runV (As := []) (rest := []) S (kX11_cut l g hst hc45) (cwV 0 S.2.2.2.2 gL_act_X11_cut rfl rfl rfl ynX11_cut ⟨Nat.le_of_ble_eq_true rfl, Nat.le_of_ble_eq_true rfl⟩) (dpV hE hP hS (ci := 11) rfl (dat12 k0)) rfl rfl hl.1 rfl (lv_room (Nat.le_of_ble_eq_true rfl)) dL_act_198 ⟨Nat.le_of_ble_eq_true rfl, Nat.le_of_ble_eq_true rfl⟩) hS (fun u q9 ce H locs eo hP hS h1 h2 h3 => ?_) (fun v48 m46 H locs eo hP hS => ?_)
                      · subst eo
                        have h := d_s1 h
                        obtain ⟨kx, mx⟩ := u
                        have h := d_p2 h
                        have hP : va_P g.1 vwCl (dws g mx) H := hP
                        have h3 : s.vm.findClass (dEx kx) = some ce.cls := h3
                        by_cases hk0 : kx = 3
                        · obtain rfl : kx = 3 := hk0
                          have h := d_t (rfl : (3 : Nat) = 3) h
                          refine vx_catch (E := dEx 3) (name := "java/lang/IndexOutOfBoundsException") S.2.2.2.1 [] { startPc := 0, endPc := 379, handlerPc := 380, catchType := 98 } [{ startPc := 0, endPc := 379, handlerPc := 386, catchType := 102 }, { startPc := 0, endPc := 379, handlerPc := 392, catchType := 106 }] (htab.trans rfl) (fun z hz => by simp at hz) (by decide) (by decide) (S.2.2.2.2 (.classLink RL 98 "java/lang/IndexOutOfBoundsException") (List.mem_of_getElem? (i := 1) rfl)) (va_Nw.use rfl (hE.2.2.2.2.2.2.2.2.1 "java/lang/IndexOutOfBoundsException" (by decide))) h1 h2 h3 ?_
                          refine W.eq (g2 := F0 mth 380 ls [.ref q9]) rfl ?_
                          refine lv_astore (lv' := [(6, .ref q9), (0, .ref (dad g p0)), (1, .int p1), (2, .int p2), (3, .int p3), (4, .int p4), (5, .int p5)]) S.1 S.2.1 dL_act_380 hl (by decide) rfl (fun ls hl => ?_)
                          refine lv_ldc2 (v := (-71)) S.1 S.2.1 S.2.2.2.1 (S.2.2.2.2 (.constantLong RL 100 (-71)) (List.mem_of_getElem? (i := 4) rfl)) dL_act_382 ?_
                          obtain ⟨rfl, rfl⟩ := Prod.mk.inj (Option.some.inj h)
                          exact dLtj S hr hlk hE hP hS (Nat.le_of_ble_eq_true rfl) (Nat.le_of_ble_eq_true rfl) dL_act_385
                        · have h := d_f hk0 h
                          by_cases hk1 : kx = 1
                          · obtain rfl : kx = 1 := hk1
                            have h := d_t (rfl : (1 : Nat) = 1) h
                            refine vx_catch (E := dEx 1) (name := "java/lang/IllegalArgumentException") S.2.2.2.1 [{ startPc := 0, endPc := 379, handlerPc := 380, catchType := 98 }] { startPc := 0, endPc := 379, handlerPc := 386, catchType := 102 } [{ startPc := 0, endPc := 379, handlerPc := 392, catchType := 106 }] (htab.trans rfl) (fun z hz => by simp only [List.mem_cons, List.not_mem_nil, or_false] at hz; subst hz; exact Or.inr ⟨by decide, "java/lang/IndexOutOfBoundsException", S.2.2.2.2 (.classLink RL 98 "java/lang/IndexOutOfBoundsException") (List.mem_of_getElem? (i := 1) rfl), hE.2.2.2.2.2.2.2.2.2 (dEx 1) (by decide) "java/lang/IndexOutOfBoundsException" (by decide) (by decide)⟩) (by decide) (by decide) (S.2.2.2.2 (.classLink RL 102 "java/lang/IllegalArgumentException") (List.mem_of_getElem? (i := 2) rfl)) (va_Nw.use rfl (hE.2.2.2.2.2.2.2.2.1 "java/lang/IllegalArgumentException" (by decide))) h1 h2 h3 ?_
                            refine W.eq (g2 := F0 mth 386 ls [.ref q9]) rfl ?_
                            refine lv_astore (lv' := [(6, .ref q9), (0, .ref (dad g p0)), (1, .int p1), (2, .int p2), (3, .int p3), (4, .int p4), (5, .int p5)]) S.1 S.2.1 dL_act_386 hl (by decide) rfl (fun ls hl => ?_)
                            refine lv_ldc2 (v := (-72)) S.1 S.2.1 S.2.2.2.1 (S.2.2.2.2 (.constantLong RL 104 (-72)) (List.mem_of_getElem? (i := 5) rfl)) dL_act_388 ?_
                            obtain ⟨rfl, rfl⟩ := Prod.mk.inj (Option.some.inj h)
                            exact dLtj S hr hlk hE hP hS (Nat.le_of_ble_eq_true rfl) (Nat.le_of_ble_eq_true rfl) dL_act_391
                          · have h := d_f hk1 h
                            by_cases hk2 : kx = 2
                            · obtain rfl : kx = 2 := hk2
                              have h := d_t (rfl : (2 : Nat) = 2) h
                              refine vx_catch (E := dEx 2) (name := "java/lang/IllegalStateException") S.2.2.2.1 [{ startPc := 0, endPc := 379, handlerPc := 380, catchType := 98 }, { startPc := 0, endPc := 379, handlerPc := 386, catchType := 102 }] { startPc := 0, endPc := 379, handlerPc := 392, catchType := 106 } [] (htab.trans rfl) (fun z hz => by simp only [List.mem_cons, List.not_mem_nil, or_false] at hz; rcases hz with rfl | rfl; exact Or.inr ⟨by decide, "java/lang/IndexOutOfBoundsException", S.2.2.2.2 (.classLink RL 98 "java/lang/IndexOutOfBoundsException") (List.mem_of_getElem? (i := 1) rfl), hE.2.2.2.2.2.2.2.2.2 (dEx 2) (by decide) "java/lang/IndexOutOfBoundsException" (by decide) (by decide)⟩; exact Or.inr ⟨by decide, "java/lang/IllegalArgumentException", S.2.2.2.2 (.classLink RL 102 "java/lang/IllegalArgumentException") (List.mem_of_getElem? (i := 2) rfl), hE.2.2.2.2.2.2.2.2.2 (dEx 2) (by decide) "java/lang/IllegalArgumentException" (by decide) (by decide)⟩) (by decide) (by decide) (S.2.2.2.2 (.classLink RL 106 "java/lang/IllegalStateException") (List.mem_of_getElem? (i := 3) rfl)) (va_Nw.use rfl (hE.2.2.2.2.2.2.2.2.1 "java/lang/IllegalStateException" (by decide))) h1 h2 h3 ?_
                              refine W.eq (g2 := F0 mth 392 ls [.ref q9]) rfl ?_
                              refine lv_astore (lv' := [(6, .ref q9), (0, .ref (dad g p0)), (1, .int p1), (2, .int p2), (3, .int p3), (4, .int p4), (5, .int p5)]) S.1 S.2.1 dL_act_392 hl (by decide) rfl (fun ls hl => ?_)
                              refine lv_ldc2 (v := (-73)) S.1 S.2.1 S.2.2.2.1 (S.2.2.2.2 (.constantLong RL 108 (-73)) (List.mem_of_getElem? (i := 6) rfl)) dL_act_394 ?_
                              obtain ⟨rfl, rfl⟩ := Prod.mk.inj (Option.some.inj h)
                              exact dLtj S hr hlk hE hP hS (Nat.le_of_ble_eq_true rfl) (Nat.le_of_ble_eq_true rfl) dL_act_397
                            · have h := d_f hk2 h
                              cases h
                      · subst eo
                        have h := d_s2 h
                        have h := d_p2 h
                        refine lv_i2l S.1 S.2.1 dL_act_201 rfl ?_
                        refine lv_goto (tgt := 379) S.1 S.2.1 dL_act_202 (by decide) ?_
                        obtain ⟨rfl, rfl⟩ := Prod.mk.inj (Option.some.inj h)
                        exact dLtj S hr hlk hE hP hS (Nat.le_of_ble_eq_true rfl) (Nat.le_of_ble_eq_true rfl) dL_act_379
                  · have h := d_t cq h
                    refine lv_aload_n S.1 S.2.1 dL_act_177 rfl (lv_at hl 0 rfl) ?_
                    refine lv_iload_n S.1 S.2.1 dL_act_178 rfl (lv_at hl 2 rfl) ?_
                    refine lv_iload_n S.1 S.2.1 dL_act_179 rfl (lv_at hl 3 rfl) ?_
                    refine lv_iload S.1 S.2.1 dL_act_180 (lv_at hl 4 rfl) ?_
                    refine lv_iload S.1 S.2.1 dL_act_182 (lv_at hl 5 rfl) ?_
                    obtain ⟨q51, hc49, h⟩ := d_b h
                    refine dxri (o := q51) (vx_runS (As := [.ref (dad g p0), .int p2, .int p3, .int p4, .int p5]) (rest := []) S (kL_change l g hst hc49) (va_cwS 5 S.2.2.2.2 gL_act_L_change rfl rfl rfl ynL_change ⟨Nat.le_of_ble_eq_true rfl, Nat.le_of_ble_eq_true rfl⟩) (dpS hE hP hS) rfl rfl hl.1 rfl (lv_room (Nat.le_of_ble_eq_true rfl)) dL_act_184 ⟨Nat.le_of_ble_eq_true rfl, Nat.le_of_ble_eq_true rfl⟩) hS (fun u q9 ce H locs eo hP hS h1 h2 h3 => ?_) (fun v52 m50 H locs eo hP hS => ?_)
                    · subst eo
                      have h := d_s1 h
                      obtain ⟨kx, mx⟩ := u
                      have h := d_p2 h
                      have hP : va_P g.1 vwCl (dws g mx) H := hP
                      have h3 : s.vm.findClass (dEx kx) = some ce.cls := h3
                      by_cases hk0 : kx = 3
                      · obtain rfl : kx = 3 := hk0
                        have h := d_t (rfl : (3 : Nat) = 3) h
                        refine vx_catch (E := dEx 3) (name := "java/lang/IndexOutOfBoundsException") S.2.2.2.1 [] { startPc := 0, endPc := 379, handlerPc := 380, catchType := 98 } [{ startPc := 0, endPc := 379, handlerPc := 386, catchType := 102 }, { startPc := 0, endPc := 379, handlerPc := 392, catchType := 106 }] (htab.trans rfl) (fun z hz => by simp at hz) (by decide) (by decide) (S.2.2.2.2 (.classLink RL 98 "java/lang/IndexOutOfBoundsException") (List.mem_of_getElem? (i := 1) rfl)) (va_Nw.use rfl (hE.2.2.2.2.2.2.2.2.1 "java/lang/IndexOutOfBoundsException" (by decide))) h1 h2 h3 ?_
                        refine W.eq (g2 := F0 mth 380 ls [.ref q9]) rfl ?_
                        refine lv_astore (lv' := [(6, .ref q9), (0, .ref (dad g p0)), (1, .int p1), (2, .int p2), (3, .int p3), (4, .int p4), (5, .int p5)]) S.1 S.2.1 dL_act_380 hl (by decide) rfl (fun ls hl => ?_)
                        refine lv_ldc2 (v := (-71)) S.1 S.2.1 S.2.2.2.1 (S.2.2.2.2 (.constantLong RL 100 (-71)) (List.mem_of_getElem? (i := 4) rfl)) dL_act_382 ?_
                        obtain ⟨rfl, rfl⟩ := Prod.mk.inj (Option.some.inj h)
                        exact dLtj S hr hlk hE hP hS (Nat.le_of_ble_eq_true rfl) (Nat.le_of_ble_eq_true rfl) dL_act_385
                      · have h := d_f hk0 h
                        by_cases hk1 : kx = 1
                        · obtain rfl : kx = 1 := hk1
                          have h := d_t (rfl : (1 : Nat) = 1) h
                          refine vx_catch (E := dEx 1) (name := "java/lang/IllegalArgumentException") S.2.2.2.1 [{ startPc := 0, endPc := 379, handlerPc := 380, catchType := 98 }] { startPc := 0, endPc := 379, handlerPc := 386, catchType := 102 } [{ startPc := 0, endPc := 379, handlerPc := 392, catchType := 106 }] (htab.trans rfl) (fun z hz => by simp only [List.mem_cons, List.not_mem_nil, or_false] at hz; subst hz; exact Or.inr ⟨by decide, "java/lang/IndexOutOfBoundsException", S.2.2.2.2 (.classLink RL 98 "java/lang/IndexOutOfBoundsException") (List.mem_of_getElem? (i := 1) rfl), hE.2.2.2.2.2.2.2.2.2 (dEx 1) (by decide) "java/lang/IndexOutOfBoundsException" (by decide) (by decide)⟩) (by decide) (by decide) (S.2.2.2.2 (.classLink RL 102 "java/lang/IllegalArgumentException") (List.mem_of_getElem? (i := 2) rfl)) (va_Nw.use rfl (hE.2.2.2.2.2.2.2.2.1 "java/lang/IllegalArgumentException" (by decide))) h1 h2 h3 ?_
                          refine W.eq (g2 := F0 mth 386 ls [.ref q9]) rfl ?_
                          refine lv_astore (lv' := [(6, .ref q9), (0, .ref (dad g p0)), (1, .int p1), (2, .int p2), (3, .int p3), (4, .int p4), (5, .int p5)]) S.1 S.2.1 dL_act_386 hl (by decide) rfl (fun ls hl => ?_)
                          refine lv_ldc2 (v := (-72)) S.1 S.2.1 S.2.2.2.1 (S.2.2.2.2 (.constantLong RL 104 (-72)) (List.mem_of_getElem? (i := 5) rfl)) dL_act_388 ?_
                          obtain ⟨rfl, rfl⟩ := Prod.mk.inj (Option.some.inj h)
                          exact dLtj S hr hlk hE hP hS (Nat.le_of_ble_eq_true rfl) (Nat.le_of_ble_eq_true rfl) dL_act_391
                        · have h := d_f hk1 h
                          by_cases hk2 : kx = 2
                          · obtain rfl : kx = 2 := hk2
                            have h := d_t (rfl : (2 : Nat) = 2) h
                            refine vx_catch (E := dEx 2) (name := "java/lang/IllegalStateException") S.2.2.2.1 [{ startPc := 0, endPc := 379, handlerPc := 380, catchType := 98 }, { startPc := 0, endPc := 379, handlerPc := 386, catchType := 102 }] { startPc := 0, endPc := 379, handlerPc := 392, catchType := 106 } [] (htab.trans rfl) (fun z hz => by simp only [List.mem_cons, List.not_mem_nil, or_false] at hz; rcases hz with rfl | rfl; exact Or.inr ⟨by decide, "java/lang/IndexOutOfBoundsException", S.2.2.2.2 (.classLink RL 98 "java/lang/IndexOutOfBoundsException") (List.mem_of_getElem? (i := 1) rfl), hE.2.2.2.2.2.2.2.2.2 (dEx 2) (by decide) "java/lang/IndexOutOfBoundsException" (by decide) (by decide)⟩; exact Or.inr ⟨by decide, "java/lang/IllegalArgumentException", S.2.2.2.2 (.classLink RL 102 "java/lang/IllegalArgumentException") (List.mem_of_getElem? (i := 2) rfl), hE.2.2.2.2.2.2.2.2.2 (dEx 2) (by decide) "java/lang/IllegalArgumentException" (by decide) (by decide)⟩) (by decide) (by decide) (S.2.2.2.2 (.classLink RL 106 "java/lang/IllegalStateException") (List.mem_of_getElem? (i := 3) rfl)) (va_Nw.use rfl (hE.2.2.2.2.2.2.2.2.1 "java/lang/IllegalStateException" (by decide))) h1 h2 h3 ?_
                            refine W.eq (g2 := F0 mth 392 ls [.ref q9]) rfl ?_
                            refine lv_astore (lv' := [(6, .ref q9), (0, .ref (dad g p0)), (1, .int p1), (2, .int p2), (3, .int p3), (4, .int p4), (5, .int p5)]) S.1 S.2.1 dL_act_392 hl (by decide) rfl (fun ls hl => ?_)
                            refine lv_ldc2 (v := (-73)) S.1 S.2.1 S.2.2.2.1 (S.2.2.2.2 (.constantLong RL 108 (-73)) (List.mem_of_getElem? (i := 6) rfl)) dL_act_394 ?_
                            obtain ⟨rfl, rfl⟩ := Prod.mk.inj (Option.some.inj h)
                            exact dLtj S hr hlk hE hP hS (Nat.le_of_ble_eq_true rfl) (Nat.le_of_ble_eq_true rfl) dL_act_397
                          · have h := d_f hk2 h
                            cases h
                    · subst eo
                      have h := d_s2 h
                      have h := d_p2 h
                      refine lv_i2l S.1 S.2.1 dL_act_187 rfl ?_
                      refine lv_goto (tgt := 379) S.1 S.2.1 dL_act_188 (by decide) ?_
                      obtain ⟨rfl, rfl⟩ := Prod.mk.inj (Option.some.inj h)
                      exact dLtj S hr hlk hE hP hS (Nat.le_of_ble_eq_true rfl) (Nat.le_of_ble_eq_true rfl) dL_act_379
                · have h := d_t cq h
                  refine lv_aload_n S.1 S.2.1 dL_act_148 rfl (lv_at hl 0 rfl) ?_
                  refine lv_iload_n S.1 S.2.1 dL_act_149 rfl (lv_at hl 2 rfl) ?_
                  refine lv_iload_n S.1 S.2.1 dL_act_150 rfl (lv_at hl 3 rfl) ?_
                  refine lv_iload S.1 S.2.1 dL_act_151 (lv_at hl 4 rfl) ?_
                  refine lv_iload S.1 S.2.1 dL_act_153 (lv_at hl 5 rfl) ?_
                  refine lv_iconst (v := 1) S.1 S.2.1 dL_act_155 (by decide) ?_
                  refine lv_icmp_ne (tgt := 163) S.1 S.2.1 dL_act_156 (by decide) (fun cq => ?_) (fun cq => ?_)
                  · have h := d_f cq h
                    refine lv_iconst (v := 0) S.1 S.2.1 dL_act_163 (by decide) ?_
                    obtain ⟨q55, hc53, h⟩ := d_b h
                    refine dxri (o := q55) (vx_runV (As := [.int p2, .int p3, .int p4, .int 0]) (rest := []) S (kX11_part l g hst hc53) (cwV 4 S.2.2.2.2 gL_act_X11_part rfl rfl rfl ynX11_part ⟨Nat.le_of_ble_eq_true rfl, Nat.le_of_ble_eq_true rfl⟩) (dpV hE hP hS (ci := 11) rfl (dat12 k0)) rfl rfl hl.1 rfl (lv_room (Nat.le_of_ble_eq_true rfl)) dL_act_164 ⟨Nat.le_of_ble_eq_true rfl, Nat.le_of_ble_eq_true rfl⟩) hS (fun u q9 ce H locs eo hP hS h1 h2 h3 => ?_) (fun v56 m54 H locs eo hP hS => ?_)
                    · subst eo
                      have h := d_s1 h
                      obtain ⟨kx, mx⟩ := u
                      have h := d_p2 h
                      have hP : va_P g.1 vwCl (dws g mx) H := hP
                      have h3 : s.vm.findClass (dEx kx) = some ce.cls := h3
                      by_cases hk0 : kx = 3
                      · obtain rfl : kx = 3 := hk0
                        have h := d_t (rfl : (3 : Nat) = 3) h
                        refine vx_catch (E := dEx 3) (name := "java/lang/IndexOutOfBoundsException") S.2.2.2.1 [] { startPc := 0, endPc := 379, handlerPc := 380, catchType := 98 } [{ startPc := 0, endPc := 379, handlerPc := 386, catchType := 102 }, { startPc := 0, endPc := 379, handlerPc := 392, catchType := 106 }] (htab.trans rfl) (fun z hz => by simp at hz) (by decide) (by decide) (S.2.2.2.2 (.classLink RL 98 "java/lang/IndexOutOfBoundsException") (List.mem_of_getElem? (i := 1) rfl)) (va_Nw.use rfl (hE.2.2.2.2.2.2.2.2.1 "java/lang/IndexOutOfBoundsException" (by decide))) h1 h2 h3 ?_
                        refine W.eq (g2 := F0 mth 380 ls [.ref q9]) rfl ?_
                        refine lv_astore (lv' := [(6, .ref q9), (0, .ref (dad g p0)), (1, .int p1), (2, .int p2), (3, .int p3), (4, .int p4), (5, .int p5)]) S.1 S.2.1 dL_act_380 hl (by decide) rfl (fun ls hl => ?_)
                        refine lv_ldc2 (v := (-71)) S.1 S.2.1 S.2.2.2.1 (S.2.2.2.2 (.constantLong RL 100 (-71)) (List.mem_of_getElem? (i := 4) rfl)) dL_act_382 ?_
                        obtain ⟨rfl, rfl⟩ := Prod.mk.inj (Option.some.inj h)
                        exact dLtj S hr hlk hE hP hS (Nat.le_of_ble_eq_true rfl) (Nat.le_of_ble_eq_true rfl) dL_act_385
                      · have h := d_f hk0 h
                        by_cases hk1 : kx = 1
                        · obtain rfl : kx = 1 := hk1
                          have h := d_t (rfl : (1 : Nat) = 1) h
                          refine vx_catch (E := dEx 1) (name := "java/lang/IllegalArgumentException") S.2.2.2.1 [{ startPc := 0, endPc := 379, handlerPc := 380, catchType := 98 }] { startPc := 0, endPc := 379, handlerPc := 386, catchType := 102 } [{ startPc := 0, endPc := 379, handlerPc := 392, catchType := 106 }] (htab.trans rfl) (fun z hz => by simp only [List.mem_cons, List.not_mem_nil, or_false] at hz; subst hz; exact Or.inr ⟨by decide, "java/lang/IndexOutOfBoundsException", S.2.2.2.2 (.classLink RL 98 "java/lang/IndexOutOfBoundsException") (List.mem_of_getElem? (i := 1) rfl), hE.2.2.2.2.2.2.2.2.2 (dEx 1) (by decide) "java/lang/IndexOutOfBoundsException" (by decide) (by decide)⟩) (by decide) (by decide) (S.2.2.2.2 (.classLink RL 102 "java/lang/IllegalArgumentException") (List.mem_of_getElem? (i := 2) rfl)) (va_Nw.use rfl (hE.2.2.2.2.2.2.2.2.1 "java/lang/IllegalArgumentException" (by decide))) h1 h2 h3 ?_
                          refine W.eq (g2 := F0 mth 386 ls [.ref q9]) rfl ?_
                          refine lv_astore (lv' := [(6, .ref q9), (0, .ref (dad g p0)), (1, .int p1), (2, .int p2), (3, .int p3), (4, .int p4), (5, .int p5)]) S.1 S.2.1 dL_act_386 hl (by decide) rfl (fun ls hl => ?_)
                          refine lv_ldc2 (v := (-72)) S.1 S.2.1 S.2.2.2.1 (S.2.2.2.2 (.constantLong RL 104 (-72)) (List.mem_of_getElem? (i := 5) rfl)) dL_act_388 ?_
                          obtain ⟨rfl, rfl⟩ := Prod.mk.inj (Option.some.inj h)
                          exact dLtj S hr hlk hE hP hS (Nat.le_of_ble_eq_true rfl) (Nat.le_of_ble_eq_true rfl) dL_act_391
                        · have h := d_f hk1 h
                          by_cases hk2 : kx = 2
                          · obtain rfl : kx = 2 := hk2
                            have h := d_t (rfl : (2 : Nat) = 2) h
                            refine vx_catch (E := dEx 2) (name := "java/lang/IllegalStateException") S.2.2.2.1 [{ startPc := 0, endPc := 379, handlerPc := 380, catchType := 98 }, { startPc := 0, endPc := 379, handlerPc := 386, catchType := 102 }] { startPc := 0, endPc := 379, handlerPc := 392, catchType := 106 } [] (htab.trans rfl) (fun z hz => by simp only [List.mem_cons, List.not_mem_nil, or_false] at hz; rcases hz with rfl | rfl; exact Or.inr ⟨by decide, "java/lang/IndexOutOfBoundsException", S.2.2.2.2 (.classLink RL 98 "java/lang/IndexOutOfBoundsException") (List.mem_of_getElem? (i := 1) rfl), hE.2.2.2.2.2.2.2.2.2 (dEx 2) (by decide) "java/lang/IndexOutOfBoundsException" (by decide) (by decide)⟩; exact Or.inr ⟨by decide, "java/lang/IllegalArgumentException", S.2.2.2.2 (.classLink RL 102 "java/lang/IllegalArgumentException") (List.mem_of_getElem? (i := 2) rfl), hE.2.2.2.2.2.2.2.2.2 (dEx 2) (by decide) "java/lang/IllegalArgumentException" (by decide) (by decide)⟩) (by decide) (by decide) (S.2.2.2.2 (.classLink RL 106 "java/lang/IllegalStateException") (List.mem_of_getElem? (i := 3) rfl)) (va_Nw.use rfl (hE.2.2.2.2.2.2.2.2.1 "java/lang/IllegalStateException" (by decide))) h1 h2 h3 ?_
                            refine W.eq (g2 := F0 mth 392 ls [.ref q9]) rfl ?_
                            refine lv_astore (lv' := [(6, .ref q9), (0, .ref (dad g p0)), (1, .int p1), (2, .int p2), (3, .int p3), (4, .int p4), (5, .int p5)]) S.1 S.2.1 dL_act_392 hl (by decide) rfl (fun ls hl => ?_)
                            refine lv_ldc2 (v := (-73)) S.1 S.2.1 S.2.2.2.1 (S.2.2.2.2 (.constantLong RL 108 (-73)) (List.mem_of_getElem? (i := 6) rfl)) dL_act_394 ?_
                            obtain ⟨rfl, rfl⟩ := Prod.mk.inj (Option.some.inj h)
                            exact dLtj S hr hlk hE hP hS (Nat.le_of_ble_eq_true rfl) (Nat.le_of_ble_eq_true rfl) dL_act_397
                          · have h := d_f hk2 h
                            cases h
                    · subst eo
                      have h := d_s2 h
                      have h := d_p2 h
                      refine lv_i2l S.1 S.2.1 dL_act_167 rfl ?_
                      refine lv_goto (tgt := 379) S.1 S.2.1 dL_act_168 (by decide) ?_
                      obtain ⟨rfl, rfl⟩ := Prod.mk.inj (Option.some.inj h)
                      exact dLtj S hr hlk hE hP hS (Nat.le_of_ble_eq_true rfl) (Nat.le_of_ble_eq_true rfl) dL_act_379
                  · have h := d_t cq h
                    refine lv_iconst (v := 1) S.1 S.2.1 dL_act_159 (by decide) ?_
                    refine lv_goto (tgt := 164) S.1 S.2.1 dL_act_160 (by decide) ?_
                    obtain ⟨q59, hc57, h⟩ := d_b h
                    refine dxri (o := q59) (vx_runV (As := [.int p2, .int p3, .int p4, .int 1]) (rest := []) S (kX11_part l g hst hc57) (cwV 4 S.2.2.2.2 gL_act_X11_part rfl rfl rfl ynX11_part ⟨Nat.le_of_ble_eq_true rfl, Nat.le_of_ble_eq_true rfl⟩) (dpV hE hP hS (ci := 11) rfl (dat12 k0)) rfl rfl hl.1 rfl (lv_room (Nat.le_of_ble_eq_true rfl)) dL_act_164 ⟨Nat.le_of_ble_eq_true rfl, Nat.le_of_ble_eq_true rfl⟩) hS (fun u q9 ce H locs eo hP hS h1 h2 h3 => ?_) (fun v60 m58 H locs eo hP hS => ?_)
                    · subst eo
                      have h := d_s1 h
                      obtain ⟨kx, mx⟩ := u
                      have h := d_p2 h
                      have hP : va_P g.1 vwCl (dws g mx) H := hP
                      have h3 : s.vm.findClass (dEx kx) = some ce.cls := h3
                      by_cases hk0 : kx = 3
                      · obtain rfl : kx = 3 := hk0
                        have h := d_t (rfl : (3 : Nat) = 3) h
                        refine vx_catch (E := dEx 3) (name := "java/lang/IndexOutOfBoundsException") S.2.2.2.1 [] { startPc := 0, endPc := 379, handlerPc := 380, catchType := 98 } [{ startPc := 0, endPc := 379, handlerPc := 386, catchType := 102 }, { startPc := 0, endPc := 379, handlerPc := 392, catchType := 106 }] (htab.trans rfl) (fun z hz => by simp at hz) (by decide) (by decide) (S.2.2.2.2 (.classLink RL 98 "java/lang/IndexOutOfBoundsException") (List.mem_of_getElem? (i := 1) rfl)) (va_Nw.use rfl (hE.2.2.2.2.2.2.2.2.1 "java/lang/IndexOutOfBoundsException" (by decide))) h1 h2 h3 ?_
                        refine W.eq (g2 := F0 mth 380 ls [.ref q9]) rfl ?_
                        refine lv_astore (lv' := [(6, .ref q9), (0, .ref (dad g p0)), (1, .int p1), (2, .int p2), (3, .int p3), (4, .int p4), (5, .int p5)]) S.1 S.2.1 dL_act_380 hl (by decide) rfl (fun ls hl => ?_)
                        refine lv_ldc2 (v := (-71)) S.1 S.2.1 S.2.2.2.1 (S.2.2.2.2 (.constantLong RL 100 (-71)) (List.mem_of_getElem? (i := 4) rfl)) dL_act_382 ?_
                        obtain ⟨rfl, rfl⟩ := Prod.mk.inj (Option.some.inj h)
                        exact dLtj S hr hlk hE hP hS (Nat.le_of_ble_eq_true rfl) (Nat.le_of_ble_eq_true rfl) dL_act_385
                      · have h := d_f hk0 h
                        by_cases hk1 : kx = 1
                        · obtain rfl : kx = 1 := hk1
                          have h := d_t (rfl : (1 : Nat) = 1) h
                          refine vx_catch (E := dEx 1) (name := "java/lang/IllegalArgumentException") S.2.2.2.1 [{ startPc := 0, endPc := 379, handlerPc := 380, catchType := 98 }] { startPc := 0, endPc := 379, handlerPc := 386, catchType := 102 } [{ startPc := 0, endPc := 379, handlerPc := 392, catchType := 106 }] (htab.trans rfl) (fun z hz => by simp only [List.mem_cons, List.not_mem_nil, or_false] at hz; subst hz; exact Or.inr ⟨by decide, "java/lang/IndexOutOfBoundsException", S.2.2.2.2 (.classLink RL 98 "java/lang/IndexOutOfBoundsException") (List.mem_of_getElem? (i := 1) rfl), hE.2.2.2.2.2.2.2.2.2 (dEx 1) (by decide) "java/lang/IndexOutOfBoundsException" (by decide) (by decide)⟩) (by decide) (by decide) (S.2.2.2.2 (.classLink RL 102 "java/lang/IllegalArgumentException") (List.mem_of_getElem? (i := 2) rfl)) (va_Nw.use rfl (hE.2.2.2.2.2.2.2.2.1 "java/lang/IllegalArgumentException" (by decide))) h1 h2 h3 ?_
                          refine W.eq (g2 := F0 mth 386 ls [.ref q9]) rfl ?_
                          refine lv_astore (lv' := [(6, .ref q9), (0, .ref (dad g p0)), (1, .int p1), (2, .int p2), (3, .int p3), (4, .int p4), (5, .int p5)]) S.1 S.2.1 dL_act_386 hl (by decide) rfl (fun ls hl => ?_)
                          refine lv_ldc2 (v := (-72)) S.1 S.2.1 S.2.2.2.1 (S.2.2.2.2 (.constantLong RL 104 (-72)) (List.mem_of_getElem? (i := 5) rfl)) dL_act_388 ?_
                          obtain ⟨rfl, rfl⟩ := Prod.mk.inj (Option.some.inj h)
                          exact dLtj S hr hlk hE hP hS (Nat.le_of_ble_eq_true rfl) (Nat.le_of_ble_eq_true rfl) dL_act_391
                        · have h := d_f hk1 h
                          by_cases hk2 : kx = 2
                          · obtain rfl : kx = 2 := hk2
                            have h := d_t (rfl : (2 : Nat) = 2) h
                            refine vx_catch (E := dEx 2) (name := "java/lang/IllegalStateException") S.2.2.2.1 [{ startPc := 0, endPc := 379, handlerPc := 380, catchType := 98 }, { startPc := 0, endPc := 379, handlerPc := 386, catchType := 102 }] { startPc := 0, endPc := 379, handlerPc := 392, catchType := 106 } [] (htab.trans rfl) (fun z hz => by simp only [List.mem_cons, List.not_mem_nil, or_false] at hz; rcases hz with rfl | rfl; exact Or.inr ⟨by decide, "java/lang/IndexOutOfBoundsException", S.2.2.2.2 (.classLink RL 98 "java/lang/IndexOutOfBoundsException") (List.mem_of_getElem? (i := 1) rfl), hE.2.2.2.2.2.2.2.2.2 (dEx 2) (by decide) "java/lang/IndexOutOfBoundsException" (by decide) (by decide)⟩; exact Or.inr ⟨by decide, "java/lang/IllegalArgumentException", S.2.2.2.2 (.classLink RL 102 "java/lang/IllegalArgumentException") (List.mem_of_getElem? (i := 2) rfl), hE.2.2.2.2.2.2.2.2.2 (dEx 2) (by decide) "java/lang/IllegalArgumentException" (by decide) (by decide)⟩) (by decide) (by decide) (S.2.2.2.2 (.classLink RL 106 "java/lang/IllegalStateException") (List.mem_of_getElem? (i := 3) rfl)) (va_Nw.use rfl (hE.2.2.2.2.2.2.2.2.1 "java/lang/IllegalStateException" (by decide))) h1 h2 h3 ?_
                            refine W.eq (g2 := F0 mth 392 ls [.ref q9]) rfl ?_
                            refine lv_astore (lv' := [(6, .ref q9), (0, .ref (dad g p0)), (1, .int p1), (2, .int p2), (3, .int p3), (4, .int p4), (5, .int p5)]) S.1 S.2.1 dL_act_392 hl (by decide) rfl (fun ls hl => ?_)
                            refine lv_ldc2 (v := (-73)) S.1 S.2.1 S.2.2.2.1 (S.2.2.2.2 (.constantLong RL 108 (-73)) (List.mem_of_getElem? (i := 6) rfl)) dL_act_394 ?_
                            obtain ⟨rfl, rfl⟩ := Prod.mk.inj (Option.some.inj h)
                            exact dLtj S hr hlk hE hP hS (Nat.le_of_ble_eq_true rfl) (Nat.le_of_ble_eq_true rfl) dL_act_397
                          · have h := d_f hk2 h
                            cases h
                    · subst eo
                      have h := d_s2 h
                      have h := d_p2 h
                      refine lv_i2l S.1 S.2.1 dL_act_167 rfl ?_
                      refine lv_goto (tgt := 379) S.1 S.2.1 dL_act_168 (by decide) ?_
                      obtain ⟨rfl, rfl⟩ := Prod.mk.inj (Option.some.inj h)
                      exact dLtj S hr hlk hE hP hS (Nat.le_of_ble_eq_true rfl) (Nat.le_of_ble_eq_true rfl) dL_act_379
              · have h := d_t cq h
                refine lv_aload_n S.1 S.2.1 dL_act_130 rfl (lv_at hl 0 rfl) ?_
                refine lv_iload_n S.1 S.2.1 dL_act_131 rfl (lv_at hl 2 rfl) ?_
                refine lv_iload_n S.1 S.2.1 dL_act_132 rfl (lv_at hl 3 rfl) ?_
                refine lv_iload S.1 S.2.1 dL_act_133 (lv_at hl 4 rfl) ?_
                obtain ⟨q63, hc61, h⟩ := d_b h
                refine dxri (o := q63) (vx_runV (As := [.int p2, .int p3, .int p4]) (rest := []) S (kX11_wedge l g hst hc61) (cwV 3 S.2.2.2.2 gL_act_X11_wedge rfl rfl rfl ynX11_wedge ⟨Nat.le_of_ble_eq_true rfl, Nat.le_of_ble_eq_true rfl⟩) (dpV hE hP hS (ci := 11) rfl (dat12 k0)) rfl rfl hl.1 rfl (lv_room (Nat.le_of_ble_eq_true rfl)) dL_act_135 ⟨Nat.le_of_ble_eq_true rfl, Nat.le_of_ble_eq_true rfl⟩) hS (fun u q9 ce H locs eo hP hS h1 h2 h3 => ?_) (fun v64 m62 H locs eo hP hS => ?_)
                · subst eo
                  have h := d_s1 h
                  obtain ⟨kx, mx⟩ := u
                  have h := d_p2 h
                  have hP : va_P g.1 vwCl (dws g mx) H := hP
                  have h3 : s.vm.findClass (dEx kx) = some ce.cls := h3
                  by_cases hk0 : kx = 3
                  · obtain rfl : kx = 3 := hk0
                    have h := d_t (rfl : (3 : Nat) = 3) h
                    refine vx_catch (E := dEx 3) (name := "java/lang/IndexOutOfBoundsException") S.2.2.2.1 [] { startPc := 0, endPc := 379, handlerPc := 380, catchType := 98 } [{ startPc := 0, endPc := 379, handlerPc := 386, catchType := 102 }, { startPc := 0, endPc := 379, handlerPc := 392, catchType := 106 }] (htab.trans rfl) (fun z hz => by simp at hz) (by decide) (by decide) (S.2.2.2.2 (.classLink RL 98 "java/lang/IndexOutOfBoundsException") (List.mem_of_getElem? (i := 1) rfl)) (va_Nw.use rfl (hE.2.2.2.2.2.2.2.2.1 "java/lang/IndexOutOfBoundsException" (by decide))) h1 h2 h3 ?_
                    refine W.eq (g2 := F0 mth 380 ls [.ref q9]) rfl ?_
                    refine lv_astore (lv' := [(6, .ref q9), (0, .ref (dad g p0)), (1, .int p1), (2, .int p2), (3, .int p3), (4, .int p4), (5, .int p5)]) S.1 S.2.1 dL_act_380 hl (by decide) rfl (fun ls hl => ?_)
                    refine lv_ldc2 (v := (-71)) S.1 S.2.1 S.2.2.2.1 (S.2.2.2.2 (.constantLong RL 100 (-71)) (List.mem_of_getElem? (i := 4) rfl)) dL_act_382 ?_
                    obtain ⟨rfl, rfl⟩ := Prod.mk.inj (Option.some.inj h)
                    exact dLtj S hr hlk hE hP hS (Nat.le_of_ble_eq_true rfl) (Nat.le_of_ble_eq_true rfl) dL_act_385
                  · have h := d_f hk0 h
                    by_cases hk1 : kx = 1
                    · obtain rfl : kx = 1 := hk1
                      have h := d_t (rfl : (1 : Nat) = 1) h
                      refine vx_catch (E := dEx 1) (name := "java/lang/IllegalArgumentException") S.2.2.2.1 [{ startPc := 0, endPc := 379, handlerPc := 380, catchType := 98 }] { startPc := 0, endPc := 379, handlerPc := 386, catchType := 102 } [{ startPc := 0, endPc := 379, handlerPc := 392, catchType := 106 }] (htab.trans rfl) (fun z hz => by simp only [List.mem_cons, List.not_mem_nil, or_false] at hz; subst hz; exact Or.inr ⟨by decide, "java/lang/IndexOutOfBoundsException", S.2.2.2.2 (.classLink RL 98 "java/lang/IndexOutOfBoundsException") (List.mem_of_getElem? (i := 1) rfl), hE.2.2.2.2.2.2.2.2.2 (dEx 1) (by decide) "java/lang/IndexOutOfBoundsException" (by decide) (by decide)⟩) (by decide) (by decide) (S.2.2.2.2 (.classLink RL 102 "java/lang/IllegalArgumentException") (List.mem_of_getElem? (i := 2) rfl)) (va_Nw.use rfl (hE.2.2.2.2.2.2.2.2.1 "java/lang/IllegalArgumentException" (by decide))) h1 h2 h3 ?_
                      refine W.eq (g2 := F0 mth 386 ls [.ref q9]) rfl ?_
                      refine lv_astore (lv' := [(6, .ref q9), (0, .ref (dad g p0)), (1, .int p1), (2, .int p2), (3, .int p3), (4, .int p4), (5, .int p5)]) S.1 S.2.1 dL_act_386 hl (by decide) rfl (fun ls hl => ?_)
                      refine lv_ldc2 (v := (-72)) S.1 S.2.1 S.2.2.2.1 (S.2.2.2.2 (.constantLong RL 104 (-72)) (List.mem_of_getElem? (i := 5) rfl)) dL_act_388 ?_
                      obtain ⟨rfl, rfl⟩ := Prod.mk.inj (Option.some.inj h)
                      exact dLtj S hr hlk hE hP hS (Nat.le_of_ble_eq_true rfl) (Nat.le_of_ble_eq_true rfl) dL_act_391
                    · have h := d_f hk1 h
                      by_cases hk2 : kx = 2
                      · obtain rfl : kx = 2 := hk2
                        have h := d_t (rfl : (2 : Nat) = 2) h
                        refine vx_catch (E := dEx 2) (name := "java/lang/IllegalStateException") S.2.2.2.1 [{ startPc := 0, endPc := 379, handlerPc := 380, catchType := 98 }, { startPc := 0, endPc := 379, handlerPc := 386, catchType := 102 }] { startPc := 0, endPc := 379, handlerPc := 392, catchType := 106 } [] (htab.trans rfl) (fun z hz => by simp only [List.mem_cons, List.not_mem_nil, or_false] at hz; rcases hz with rfl | rfl; exact Or.inr ⟨by decide, "java/lang/IndexOutOfBoundsException", S.2.2.2.2 (.classLink RL 98 "java/lang/IndexOutOfBoundsException") (List.mem_of_getElem? (i := 1) rfl), hE.2.2.2.2.2.2.2.2.2 (dEx 2) (by decide) "java/lang/IndexOutOfBoundsException" (by decide) (by decide)⟩; exact Or.inr ⟨by decide, "java/lang/IllegalArgumentException", S.2.2.2.2 (.classLink RL 102 "java/lang/IllegalArgumentException") (List.mem_of_getElem? (i := 2) rfl), hE.2.2.2.2.2.2.2.2.2 (dEx 2) (by decide) "java/lang/IllegalArgumentException" (by decide) (by decide)⟩) (by decide) (by decide) (S.2.2.2.2 (.classLink RL 106 "java/lang/IllegalStateException") (List.mem_of_getElem? (i := 3) rfl)) (va_Nw.use rfl (hE.2.2.2.2.2.2.2.2.1 "java/lang/IllegalStateException" (by decide))) h1 h2 h3 ?_
                        refine W.eq (g2 := F0 mth 392 ls [.ref q9]) rfl ?_
                        refine lv_astore (lv' := [(6, .ref q9), (0, .ref (dad g p0)), (1, .int p1), (2, .int p2), (3, .int p3), (4, .int p4), (5, .int p5)]) S.1 S.2.1 dL_act_392 hl (by decide) rfl (fun ls hl => ?_)
                        refine lv_ldc2 (v := (-73)) S.1 S.2.1 S.2.2.2.1 (S.2.2.2.2 (.constantLong RL 108 (-73)) (List.mem_of_getElem? (i := 6) rfl)) dL_act_394 ?_
                        obtain ⟨rfl, rfl⟩ := Prod.mk.inj (Option.some.inj h)
                        exact dLtj S hr hlk hE hP hS (Nat.le_of_ble_eq_true rfl) (Nat.le_of_ble_eq_true rfl) dL_act_397
                      · have h := d_f hk2 h
                        cases h
                · subst eo
                  have h := d_s2 h
                  have h := d_p2 h
                  refine lv_i2l S.1 S.2.1 dL_act_138 rfl ?_
                  refine lv_goto (tgt := 379) S.1 S.2.1 dL_act_139 (by decide) ?_
                  obtain ⟨rfl, rfl⟩ := Prod.mk.inj (Option.some.inj h)
                  exact dLtj S hr hlk hE hP hS (Nat.le_of_ble_eq_true rfl) (Nat.le_of_ble_eq_true rfl) dL_act_379
            · have h := d_t cq h
              refine lv_aload_n S.1 S.2.1 dL_act_110 rfl (lv_at hl 0 rfl) ?_
              refine lv_iload_n S.1 S.2.1 dL_act_111 rfl (lv_at hl 2 rfl) ?_
              refine lv_iload_n S.1 S.2.1 dL_act_112 rfl (lv_at hl 3 rfl) ?_
              refine lv_iload S.1 S.2.1 dL_act_113 (lv_at hl 4 rfl) ?_
              refine lv_iload S.1 S.2.1 dL_act_115 (lv_at hl 5 rfl) ?_
              obtain ⟨q67, hc65, h⟩ := d_b h
              refine dxri (o := q67) (vx_runV (As := [.int p2, .int p3, .int p4, .int p5]) (rest := []) S (kX11_block l g hst hc65) (cwV 4 S.2.2.2.2 gL_act_X11_block rfl rfl rfl ynX11_block ⟨Nat.le_of_ble_eq_true rfl, Nat.le_of_ble_eq_true rfl⟩) (dpV hE hP hS (ci := 11) rfl (dat12 k0)) rfl rfl hl.1 rfl (lv_room (Nat.le_of_ble_eq_true rfl)) dL_act_117 ⟨Nat.le_of_ble_eq_true rfl, Nat.le_of_ble_eq_true rfl⟩) hS (fun u q9 ce H locs eo hP hS h1 h2 h3 => ?_) (fun v68 m66 H locs eo hP hS => ?_)
              · subst eo
                have h := d_s1 h
                obtain ⟨kx, mx⟩ := u
                have h := d_p2 h
                have hP : va_P g.1 vwCl (dws g mx) H := hP
                have h3 : s.vm.findClass (dEx kx) = some ce.cls := h3
                by_cases hk0 : kx = 3
                · obtain rfl : kx = 3 := hk0
                  have h := d_t (rfl : (3 : Nat) = 3) h
                  refine vx_catch (E := dEx 3) (name := "java/lang/IndexOutOfBoundsException") S.2.2.2.1 [] { startPc := 0, endPc := 379, handlerPc := 380, catchType := 98 } [{ startPc := 0, endPc := 379, handlerPc := 386, catchType := 102 }, { startPc := 0, endPc := 379, handlerPc := 392, catchType := 106 }] (htab.trans rfl) (fun z hz => by simp at hz) (by decide) (by decide) (S.2.2.2.2 (.classLink RL 98 "java/lang/IndexOutOfBoundsException") (List.mem_of_getElem? (i := 1) rfl)) (va_Nw.use rfl (hE.2.2.2.2.2.2.2.2.1 "java/lang/IndexOutOfBoundsException" (by decide))) h1 h2 h3 ?_
                  refine W.eq (g2 := F0 mth 380 ls [.ref q9]) rfl ?_
                  refine lv_astore (lv' := [(6, .ref q9), (0, .ref (dad g p0)), (1, .int p1), (2, .int p2), (3, .int p3), (4, .int p4), (5, .int p5)]) S.1 S.2.1 dL_act_380 hl (by decide) rfl (fun ls hl => ?_)
                  refine lv_ldc2 (v := (-71)) S.1 S.2.1 S.2.2.2.1 (S.2.2.2.2 (.constantLong RL 100 (-71)) (List.mem_of_getElem? (i := 4) rfl)) dL_act_382 ?_
                  obtain ⟨rfl, rfl⟩ := Prod.mk.inj (Option.some.inj h)
                  exact dLtj S hr hlk hE hP hS (Nat.le_of_ble_eq_true rfl) (Nat.le_of_ble_eq_true rfl) dL_act_385
                · have h := d_f hk0 h
                  by_cases hk1 : kx = 1
                  · obtain rfl : kx = 1 := hk1
                    have h := d_t (rfl : (1 : Nat) = 1) h
                    refine vx_catch (E := dEx 1) (name := "java/lang/IllegalArgumentException") S.2.2.2.1 [{ startPc := 0, endPc := 379, handlerPc := 380, catchType := 98 }] { startPc := 0, endPc := 379, handlerPc := 386, catchType := 102 } [{ startPc := 0, endPc := 379, handlerPc := 392, catchType := 106 }] (htab.trans rfl) (fun z hz => by simp only [List.mem_cons, List.not_mem_nil, or_false] at hz; subst hz; exact Or.inr ⟨by decide, "java/lang/IndexOutOfBoundsException", S.2.2.2.2 (.classLink RL 98 "java/lang/IndexOutOfBoundsException") (List.mem_of_getElem? (i := 1) rfl), hE.2.2.2.2.2.2.2.2.2 (dEx 1) (by decide) "java/lang/IndexOutOfBoundsException" (by decide) (by decide)⟩) (by decide) (by decide) (S.2.2.2.2 (.classLink RL 102 "java/lang/IllegalArgumentException") (List.mem_of_getElem? (i := 2) rfl)) (va_Nw.use rfl (hE.2.2.2.2.2.2.2.2.1 "java/lang/IllegalArgumentException" (by decide))) h1 h2 h3 ?_
                    refine W.eq (g2 := F0 mth 386 ls [.ref q9]) rfl ?_
                    refine lv_astore (lv' := [(6, .ref q9), (0, .ref (dad g p0)), (1, .int p1), (2, .int p2), (3, .int p3), (4, .int p4), (5, .int p5)]) S.1 S.2.1 dL_act_386 hl (by decide) rfl (fun ls hl => ?_)
                    refine lv_ldc2 (v := (-72)) S.1 S.2.1 S.2.2.2.1 (S.2.2.2.2 (.constantLong RL 104 (-72)) (List.mem_of_getElem? (i := 5) rfl)) dL_act_388 ?_
                    obtain ⟨rfl, rfl⟩ := Prod.mk.inj (Option.some.inj h)
                    exact dLtj S hr hlk hE hP hS (Nat.le_of_ble_eq_true rfl) (Nat.le_of_ble_eq_true rfl) dL_act_391
                  · have h := d_f hk1 h
                    by_cases hk2 : kx = 2
                    · obtain rfl : kx = 2 := hk2
                      have h := d_t (rfl : (2 : Nat) = 2) h
                      refine vx_catch (E := dEx 2) (name := "java/lang/IllegalStateException") S.2.2.2.1 [{ startPc := 0, endPc := 379, handlerPc := 380, catchType := 98 }, { startPc := 0, endPc := 379, handlerPc := 386, catchType := 102 }] { startPc := 0, endPc := 379, handlerPc := 392, catchType := 106 } [] (htab.trans rfl) (fun z hz => by simp only [List.mem_cons, List.not_mem_nil, or_false] at hz; rcases hz with rfl | rfl; exact Or.inr ⟨by decide, "java/lang/IndexOutOfBoundsException", S.2.2.2.2 (.classLink RL 98 "java/lang/IndexOutOfBoundsException") (List.mem_of_getElem? (i := 1) rfl), hE.2.2.2.2.2.2.2.2.2 (dEx 2) (by decide) "java/lang/IndexOutOfBoundsException" (by decide) (by decide)⟩; exact Or.inr ⟨by decide, "java/lang/IllegalArgumentException", S.2.2.2.2 (.classLink RL 102 "java/lang/IllegalArgumentException") (List.mem_of_getElem? (i := 2) rfl), hE.2.2.2.2.2.2.2.2.2 (dEx 2) (by decide) "java/lang/IllegalArgumentException" (by decide) (by decide)⟩) (by decide) (by decide) (S.2.2.2.2 (.classLink RL 106 "java/lang/IllegalStateException") (List.mem_of_getElem? (i := 3) rfl)) (va_Nw.use rfl (hE.2.2.2.2.2.2.2.2.1 "java/lang/IllegalStateException" (by decide))) h1 h2 h3 ?_
                      refine W.eq (g2 := F0 mth 392 ls [.ref q9]) rfl ?_
                      refine lv_astore (lv' := [(6, .ref q9), (0, .ref (dad g p0)), (1, .int p1), (2, .int p2), (3, .int p3), (4, .int p4), (5, .int p5)]) S.1 S.2.1 dL_act_392 hl (by decide) rfl (fun ls hl => ?_)
                      refine lv_ldc2 (v := (-73)) S.1 S.2.1 S.2.2.2.1 (S.2.2.2.2 (.constantLong RL 108 (-73)) (List.mem_of_getElem? (i := 6) rfl)) dL_act_394 ?_
                      obtain ⟨rfl, rfl⟩ := Prod.mk.inj (Option.some.inj h)
                      exact dLtj S hr hlk hE hP hS (Nat.le_of_ble_eq_true rfl) (Nat.le_of_ble_eq_true rfl) dL_act_397
                    · have h := d_f hk2 h
                      cases h
              · subst eo
                have h := d_s2 h
                have h := d_p2 h
                refine lv_i2l S.1 S.2.1 dL_act_120 rfl ?_
                refine lv_goto (tgt := 379) S.1 S.2.1 dL_act_121 (by decide) ?_
                obtain ⟨rfl, rfl⟩ := Prod.mk.inj (Option.some.inj h)
                exact dLtj S hr hlk hE hP hS (Nat.le_of_ble_eq_true rfl) (Nat.le_of_ble_eq_true rfl) dL_act_379
          · have h := d_t cq h
            refine lv_aload_n S.1 S.2.1 dL_act_91 rfl (lv_at hl 0 rfl) ?_
            refine lv_iload_n S.1 S.2.1 dL_act_92 rfl (lv_at hl 2 rfl) ?_
            refine lv_iload_n S.1 S.2.1 dL_act_93 rfl (lv_at hl 3 rfl) ?_
            refine lv_iload S.1 S.2.1 dL_act_94 (lv_at hl 4 rfl) ?_
            refine lv_iload S.1 S.2.1 dL_act_96 (lv_at hl 5 rfl) ?_
            obtain ⟨q71, hc69, h⟩ := d_b h
            refine dxri (o := q71) (vx_runV (As := [.int p2, .int p3, .int p4, .int p5]) (rest := []) S (kX11_line l g hst hc69) (cwV 4 S.2.2.2.2 gL_act_X11_line rfl rfl rfl ynX11_line ⟨Nat.le_of_ble_eq_true rfl, Nat.le_of_ble_eq_true rfl⟩) (dpV hE hP hS (ci := 11) rfl (dat12 k0)) rfl rfl hl.1 rfl (lv_room (Nat.le_of_ble_eq_true rfl)) dL_act_98 ⟨Nat.le_of_ble_eq_true rfl, Nat.le_of_ble_eq_true rfl⟩) hS (fun u q9 ce H locs eo hP hS h1 h2 h3 => ?_) (fun v72 m70 H locs eo hP hS => ?_)
            · subst eo
              have h := d_s1 h
              obtain ⟨kx, mx⟩ := u
              have h := d_p2 h
              have hP : va_P g.1 vwCl (dws g mx) H := hP
              have h3 : s.vm.findClass (dEx kx) = some ce.cls := h3
              by_cases hk0 : kx = 3
              · obtain rfl : kx = 3 := hk0
                have h := d_t (rfl : (3 : Nat) = 3) h
                refine vx_catch (E := dEx 3) (name := "java/lang/IndexOutOfBoundsException") S.2.2.2.1 [] { startPc := 0, endPc := 379, handlerPc := 380, catchType := 98 } [{ startPc := 0, endPc := 379, handlerPc := 386, catchType := 102 }, { startPc := 0, endPc := 379, handlerPc := 392, catchType := 106 }] (htab.trans rfl) (fun z hz => by simp at hz) (by decide) (by decide) (S.2.2.2.2 (.classLink RL 98 "java/lang/IndexOutOfBoundsException") (List.mem_of_getElem? (i := 1) rfl)) (va_Nw.use rfl (hE.2.2.2.2.2.2.2.2.1 "java/lang/IndexOutOfBoundsException" (by decide))) h1 h2 h3 ?_
                refine W.eq (g2 := F0 mth 380 ls [.ref q9]) rfl ?_
                refine lv_astore (lv' := [(6, .ref q9), (0, .ref (dad g p0)), (1, .int p1), (2, .int p2), (3, .int p3), (4, .int p4), (5, .int p5)]) S.1 S.2.1 dL_act_380 hl (by decide) rfl (fun ls hl => ?_)
                refine lv_ldc2 (v := (-71)) S.1 S.2.1 S.2.2.2.1 (S.2.2.2.2 (.constantLong RL 100 (-71)) (List.mem_of_getElem? (i := 4) rfl)) dL_act_382 ?_
                obtain ⟨rfl, rfl⟩ := Prod.mk.inj (Option.some.inj h)
                exact dLtj S hr hlk hE hP hS (Nat.le_of_ble_eq_true rfl) (Nat.le_of_ble_eq_true rfl) dL_act_385
              · have h := d_f hk0 h
                by_cases hk1 : kx = 1
                · obtain rfl : kx = 1 := hk1
                  have h := d_t (rfl : (1 : Nat) = 1) h
                  refine vx_catch (E := dEx 1) (name := "java/lang/IllegalArgumentException") S.2.2.2.1 [{ startPc := 0, endPc := 379, handlerPc := 380, catchType := 98 }] { startPc := 0, endPc := 379, handlerPc := 386, catchType := 102 } [{ startPc := 0, endPc := 379, handlerPc := 392, catchType := 106 }] (htab.trans rfl) (fun z hz => by simp only [List.mem_cons, List.not_mem_nil, or_false] at hz; subst hz; exact Or.inr ⟨by decide, "java/lang/IndexOutOfBoundsException", S.2.2.2.2 (.classLink RL 98 "java/lang/IndexOutOfBoundsException") (List.mem_of_getElem? (i := 1) rfl), hE.2.2.2.2.2.2.2.2.2 (dEx 1) (by decide) "java/lang/IndexOutOfBoundsException" (by decide) (by decide)⟩) (by decide) (by decide) (S.2.2.2.2 (.classLink RL 102 "java/lang/IllegalArgumentException") (List.mem_of_getElem? (i := 2) rfl)) (va_Nw.use rfl (hE.2.2.2.2.2.2.2.2.1 "java/lang/IllegalArgumentException" (by decide))) h1 h2 h3 ?_
                  refine W.eq (g2 := F0 mth 386 ls [.ref q9]) rfl ?_
                  refine lv_astore (lv' := [(6, .ref q9), (0, .ref (dad g p0)), (1, .int p1), (2, .int p2), (3, .int p3), (4, .int p4), (5, .int p5)]) S.1 S.2.1 dL_act_386 hl (by decide) rfl (fun ls hl => ?_)
                  refine lv_ldc2 (v := (-72)) S.1 S.2.1 S.2.2.2.1 (S.2.2.2.2 (.constantLong RL 104 (-72)) (List.mem_of_getElem? (i := 5) rfl)) dL_act_388 ?_
                  obtain ⟨rfl, rfl⟩ := Prod.mk.inj (Option.some.inj h)
                  exact dLtj S hr hlk hE hP hS (Nat.le_of_ble_eq_true rfl) (Nat.le_of_ble_eq_true rfl) dL_act_391
                · have h := d_f hk1 h
                  by_cases hk2 : kx = 2
                  · obtain rfl : kx = 2 := hk2
                    have h := d_t (rfl : (2 : Nat) = 2) h
                    refine vx_catch (E := dEx 2) (name := "java/lang/IllegalStateException") S.2.2.2.1 [{ startPc := 0, endPc := 379, handlerPc := 380, catchType := 98 }, { startPc := 0, endPc := 379, handlerPc := 386, catchType := 102 }] { startPc := 0, endPc := 379, handlerPc := 392, catchType := 106 } [] (htab.trans rfl) (fun z hz => by simp only [List.mem_cons, List.not_mem_nil, or_false] at hz; rcases hz with rfl | rfl; exact Or.inr ⟨by decide, "java/lang/IndexOutOfBoundsException", S.2.2.2.2 (.classLink RL 98 "java/lang/IndexOutOfBoundsException") (List.mem_of_getElem? (i := 1) rfl), hE.2.2.2.2.2.2.2.2.2 (dEx 2) (by decide) "java/lang/IndexOutOfBoundsException" (by decide) (by decide)⟩; exact Or.inr ⟨by decide, "java/lang/IllegalArgumentException", S.2.2.2.2 (.classLink RL 102 "java/lang/IllegalArgumentException") (List.mem_of_getElem? (i := 2) rfl), hE.2.2.2.2.2.2.2.2.2 (dEx 2) (by decide) "java/lang/IllegalArgumentException" (by decide) (by decide)⟩) (by decide) (by decide) (S.2.2.2.2 (.classLink RL 106 "java/lang/IllegalStateException") (List.mem_of_getElem? (i := 3) rfl)) (va_Nw.use rfl (hE.2.2.2.2.2.2.2.2.1 "java/lang/IllegalStateException" (by decide))) h1 h2 h3 ?_
                    refine W.eq (g2 := F0 mth 392 ls [.ref q9]) rfl ?_
                    refine lv_astore (lv' := [(6, .ref q9), (0, .ref (dad g p0)), (1, .int p1), (2, .int p2), (3, .int p3), (4, .int p4), (5, .int p5)]) S.1 S.2.1 dL_act_392 hl (by decide) rfl (fun ls hl => ?_)
                    refine lv_ldc2 (v := (-73)) S.1 S.2.1 S.2.2.2.1 (S.2.2.2.2 (.constantLong RL 108 (-73)) (List.mem_of_getElem? (i := 6) rfl)) dL_act_394 ?_
                    obtain ⟨rfl, rfl⟩ := Prod.mk.inj (Option.some.inj h)
                    exact dLtj S hr hlk hE hP hS (Nat.le_of_ble_eq_true rfl) (Nat.le_of_ble_eq_true rfl) dL_act_397
                  · have h := d_f hk2 h
                    cases h
            · subst eo
              have h := d_s2 h
              have h := d_p2 h
              refine lv_i2l S.1 S.2.1 dL_act_101 rfl ?_
              refine lv_goto (tgt := 379) S.1 S.2.1 dL_act_102 (by decide) ?_
              obtain ⟨rfl, rfl⟩ := Prod.mk.inj (Option.some.inj h)
              exact dLtj S hr hlk hE hP hS (Nat.le_of_ble_eq_true rfl) (Nat.le_of_ble_eq_true rfl) dL_act_379
        · have h := d_t cq h
          refine lv_aload_n S.1 S.2.1 dL_act_65 rfl (lv_at hl 0 rfl) ?_
          refine lv_iload_n S.1 S.2.1 dL_act_66 rfl (lv_at hl 2 rfl) ?_
          refine lv_iload_n S.1 S.2.1 dL_act_67 rfl (lv_at hl 3 rfl) ?_
          refine lv_iload S.1 S.2.1 dL_act_68 (lv_at hl 4 rfl) ?_
          refine lv_iconst (v := 1) S.1 S.2.1 dL_act_70 (by decide) ?_
          refine lv_icmp_ne (tgt := 78) S.1 S.2.1 dL_act_71 (by decide) (fun cq => ?_) (fun cq => ?_)
          · have h := d_f cq h
            refine lv_iconst (v := 0) S.1 S.2.1 dL_act_78 (by decide) ?_
            obtain ⟨q75, hc73, h⟩ := d_b h
            refine dxri (o := q75) (vx_runS (As := [.ref (dad g p0), .int p2, .int p3, .int 0]) (rest := []) S (kL_alternate l g hst hc73) (va_cwS 4 S.2.2.2.2 gL_act_L_alternate rfl rfl rfl ynL_alternate ⟨Nat.le_of_ble_eq_true rfl, Nat.le_of_ble_eq_true rfl⟩) (dpS hE hP hS) rfl rfl hl.1 rfl (lv_room (Nat.le_of_ble_eq_true rfl)) dL_act_79 ⟨Nat.le_of_ble_eq_true rfl, Nat.le_of_ble_eq_true rfl⟩) hS (fun u q9 ce H locs eo hP hS h1 h2 h3 => ?_) (fun v76 m74 H locs eo hP hS => ?_)
            · subst eo
              have h := d_s1 h
              obtain ⟨kx, mx⟩ := u
              have h := d_p2 h
              have hP : va_P g.1 vwCl (dws g mx) H := hP
              have h3 : s.vm.findClass (dEx kx) = some ce.cls := h3
              by_cases hk0 : kx = 3
              · obtain rfl : kx = 3 := hk0
                have h := d_t (rfl : (3 : Nat) = 3) h
                refine vx_catch (E := dEx 3) (name := "java/lang/IndexOutOfBoundsException") S.2.2.2.1 [] { startPc := 0, endPc := 379, handlerPc := 380, catchType := 98 } [{ startPc := 0, endPc := 379, handlerPc := 386, catchType := 102 }, { startPc := 0, endPc := 379, handlerPc := 392, catchType := 106 }] (htab.trans rfl) (fun z hz => by simp at hz) (by decide) (by decide) (S.2.2.2.2 (.classLink RL 98 "java/lang/IndexOutOfBoundsException") (List.mem_of_getElem? (i := 1) rfl)) (va_Nw.use rfl (hE.2.2.2.2.2.2.2.2.1 "java/lang/IndexOutOfBoundsException" (by decide))) h1 h2 h3 ?_
                refine W.eq (g2 := F0 mth 380 ls [.ref q9]) rfl ?_
                refine lv_astore (lv' := [(6, .ref q9), (0, .ref (dad g p0)), (1, .int p1), (2, .int p2), (3, .int p3), (4, .int p4), (5, .int p5)]) S.1 S.2.1 dL_act_380 hl (by decide) rfl (fun ls hl => ?_)
                refine lv_ldc2 (v := (-71)) S.1 S.2.1 S.2.2.2.1 (S.2.2.2.2 (.constantLong RL 100 (-71)) (List.mem_of_getElem? (i := 4) rfl)) dL_act_382 ?_
                obtain ⟨rfl, rfl⟩ := Prod.mk.inj (Option.some.inj h)
                exact dLtj S hr hlk hE hP hS (Nat.le_of_ble_eq_true rfl) (Nat.le_of_ble_eq_true rfl) dL_act_385
              · have h := d_f hk0 h
                by_cases hk1 : kx = 1
                · obtain rfl : kx = 1 := hk1
                  have h := d_t (rfl : (1 : Nat) = 1) h
                  refine vx_catch (E := dEx 1) (name := "java/lang/IllegalArgumentException") S.2.2.2.1 [{ startPc := 0, endPc := 379, handlerPc := 380, catchType := 98 }] { startPc := 0, endPc := 379, handlerPc := 386, catchType := 102 } [{ startPc := 0, endPc := 379, handlerPc := 392, catchType := 106 }] (htab.trans rfl) (fun z hz => by simp only [List.mem_cons, List.not_mem_nil, or_false] at hz; subst hz; exact Or.inr ⟨by decide, "java/lang/IndexOutOfBoundsException", S.2.2.2.2 (.classLink RL 98 "java/lang/IndexOutOfBoundsException") (List.mem_of_getElem? (i := 1) rfl), hE.2.2.2.2.2.2.2.2.2 (dEx 1) (by decide) "java/lang/IndexOutOfBoundsException" (by decide) (by decide)⟩) (by decide) (by decide) (S.2.2.2.2 (.classLink RL 102 "java/lang/IllegalArgumentException") (List.mem_of_getElem? (i := 2) rfl)) (va_Nw.use rfl (hE.2.2.2.2.2.2.2.2.1 "java/lang/IllegalArgumentException" (by decide))) h1 h2 h3 ?_
                  refine W.eq (g2 := F0 mth 386 ls [.ref q9]) rfl ?_
                  refine lv_astore (lv' := [(6, .ref q9), (0, .ref (dad g p0)), (1, .int p1), (2, .int p2), (3, .int p3), (4, .int p4), (5, .int p5)]) S.1 S.2.1 dL_act_386 hl (by decide) rfl (fun ls hl => ?_)
                  refine lv_ldc2 (v := (-72)) S.1 S.2.1 S.2.2.2.1 (S.2.2.2.2 (.constantLong RL 104 (-72)) (List.mem_of_getElem? (i := 5) rfl)) dL_act_388 ?_
                  obtain ⟨rfl, rfl⟩ := Prod.mk.inj (Option.some.inj h)
                  exact dLtj S hr hlk hE hP hS (Nat.le_of_ble_eq_true rfl) (Nat.le_of_ble_eq_true rfl) dL_act_391
                · have h := d_f hk1 h
                  by_cases hk2 : kx = 2
                  · obtain rfl : kx = 2 := hk2
                    have h := d_t (rfl : (2 : Nat) = 2) h
                    refine vx_catch (E := dEx 2) (name := "java/lang/IllegalStateException") S.2.2.2.1 [{ startPc := 0, endPc := 379, handlerPc := 380, catchType := 98 }, { startPc := 0, endPc := 379, handlerPc := 386, catchType := 102 }] { startPc := 0, endPc := 379, handlerPc := 392, catchType := 106 } [] (htab.trans rfl) (fun z hz => by simp only [List.mem_cons, List.not_mem_nil, or_false] at hz; rcases hz with rfl | rfl; exact Or.inr ⟨by decide, "java/lang/IndexOutOfBoundsException", S.2.2.2.2 (.classLink RL 98 "java/lang/IndexOutOfBoundsException") (List.mem_of_getElem? (i := 1) rfl), hE.2.2.2.2.2.2.2.2.2 (dEx 2) (by decide) "java/lang/IndexOutOfBoundsException" (by decide) (by decide)⟩; exact Or.inr ⟨by decide, "java/lang/IllegalArgumentException", S.2.2.2.2 (.classLink RL 102 "java/lang/IllegalArgumentException") (List.mem_of_getElem? (i := 2) rfl), hE.2.2.2.2.2.2.2.2.2 (dEx 2) (by decide) "java/lang/IllegalArgumentException" (by decide) (by decide)⟩) (by decide) (by decide) (S.2.2.2.2 (.classLink RL 106 "java/lang/IllegalStateException") (List.mem_of_getElem? (i := 3) rfl)) (va_Nw.use rfl (hE.2.2.2.2.2.2.2.2.1 "java/lang/IllegalStateException" (by decide))) h1 h2 h3 ?_
                    refine W.eq (g2 := F0 mth 392 ls [.ref q9]) rfl ?_
                    refine lv_astore (lv' := [(6, .ref q9), (0, .ref (dad g p0)), (1, .int p1), (2, .int p2), (3, .int p3), (4, .int p4), (5, .int p5)]) S.1 S.2.1 dL_act_392 hl (by decide) rfl (fun ls hl => ?_)
                    refine lv_ldc2 (v := (-73)) S.1 S.2.1 S.2.2.2.1 (S.2.2.2.2 (.constantLong RL 108 (-73)) (List.mem_of_getElem? (i := 6) rfl)) dL_act_394 ?_
                    obtain ⟨rfl, rfl⟩ := Prod.mk.inj (Option.some.inj h)
                    exact dLtj S hr hlk hE hP hS (Nat.le_of_ble_eq_true rfl) (Nat.le_of_ble_eq_true rfl) dL_act_397
                  · have h := d_f hk2 h
                    cases h
            · subst eo
              have h := d_s2 h
              have h := d_p2 h
              refine lv_i2l S.1 S.2.1 dL_act_82 rfl ?_
              refine lv_goto (tgt := 379) S.1 S.2.1 dL_act_83 (by decide) ?_
              obtain ⟨rfl, rfl⟩ := Prod.mk.inj (Option.some.inj h)
              exact dLtj S hr hlk hE hP hS (Nat.le_of_ble_eq_true rfl) (Nat.le_of_ble_eq_true rfl) dL_act_379
          · have h := d_t cq h
            refine lv_iconst (v := 1) S.1 S.2.1 dL_act_74 (by decide) ?_
            refine lv_goto (tgt := 79) S.1 S.2.1 dL_act_75 (by decide) ?_
            obtain ⟨q79, hc77, h⟩ := d_b h
            refine dxri (o := q79) (vx_runS (As := [.ref (dad g p0), .int p2, .int p3, .int 1]) (rest := []) S (kL_alternate l g hst hc77) (va_cwS 4 S.2.2.2.2 gL_act_L_alternate rfl rfl rfl ynL_alternate ⟨Nat.le_of_ble_eq_true rfl, Nat.le_of_ble_eq_true rfl⟩) (dpS hE hP hS) rfl rfl hl.1 rfl (lv_room (Nat.le_of_ble_eq_true rfl)) dL_act_79 ⟨Nat.le_of_ble_eq_true rfl, Nat.le_of_ble_eq_true rfl⟩) hS (fun u q9 ce H locs eo hP hS h1 h2 h3 => ?_) (fun v80 m78 H locs eo hP hS => ?_)
            · subst eo
              have h := d_s1 h
              obtain ⟨kx, mx⟩ := u
              have h := d_p2 h
              have hP : va_P g.1 vwCl (dws g mx) H := hP
              have h3 : s.vm.findClass (dEx kx) = some ce.cls := h3
              by_cases hk0 : kx = 3
              · obtain rfl : kx = 3 := hk0
                have h := d_t (rfl : (3 : Nat) = 3) h
                refine vx_catch (E := dEx 3) (name := "java/lang/IndexOutOfBoundsException") S.2.2.2.1 [] { startPc := 0, endPc := 379, handlerPc := 380, catchType := 98 } [{ startPc := 0, endPc := 379, handlerPc := 386, catchType := 102 }, { startPc := 0, endPc := 379, handlerPc := 392, catchType := 106 }] (htab.trans rfl) (fun z hz => by simp at hz) (by decide) (by decide) (S.2.2.2.2 (.classLink RL 98 "java/lang/IndexOutOfBoundsException") (List.mem_of_getElem? (i := 1) rfl)) (va_Nw.use rfl (hE.2.2.2.2.2.2.2.2.1 "java/lang/IndexOutOfBoundsException" (by decide))) h1 h2 h3 ?_
                refine W.eq (g2 := F0 mth 380 ls [.ref q9]) rfl ?_
                refine lv_astore (lv' := [(6, .ref q9), (0, .ref (dad g p0)), (1, .int p1), (2, .int p2), (3, .int p3), (4, .int p4), (5, .int p5)]) S.1 S.2.1 dL_act_380 hl (by decide) rfl (fun ls hl => ?_)
                refine lv_ldc2 (v := (-71)) S.1 S.2.1 S.2.2.2.1 (S.2.2.2.2 (.constantLong RL 100 (-71)) (List.mem_of_getElem? (i := 4) rfl)) dL_act_382 ?_
                obtain ⟨rfl, rfl⟩ := Prod.mk.inj (Option.some.inj h)
                exact dLtj S hr hlk hE hP hS (Nat.le_of_ble_eq_true rfl) (Nat.le_of_ble_eq_true rfl) dL_act_385
              · have h := d_f hk0 h
                by_cases hk1 : kx = 1
                · obtain rfl : kx = 1 := hk1
                  have h := d_t (rfl : (1 : Nat) = 1) h
                  refine vx_catch (E := dEx 1) (name := "java/lang/IllegalArgumentException") S.2.2.2.1 [{ startPc := 0, endPc := 379, handlerPc := 380, catchType := 98 }] { startPc := 0, endPc := 379, handlerPc := 386, catchType := 102 } [{ startPc := 0, endPc := 379, handlerPc := 392, catchType := 106 }] (htab.trans rfl) (fun z hz => by simp only [List.mem_cons, List.not_mem_nil, or_false] at hz; subst hz; exact Or.inr ⟨by decide, "java/lang/IndexOutOfBoundsException", S.2.2.2.2 (.classLink RL 98 "java/lang/IndexOutOfBoundsException") (List.mem_of_getElem? (i := 1) rfl), hE.2.2.2.2.2.2.2.2.2 (dEx 1) (by decide) "java/lang/IndexOutOfBoundsException" (by decide) (by decide)⟩) (by decide) (by decide) (S.2.2.2.2 (.classLink RL 102 "java/lang/IllegalArgumentException") (List.mem_of_getElem? (i := 2) rfl)) (va_Nw.use rfl (hE.2.2.2.2.2.2.2.2.1 "java/lang/IllegalArgumentException" (by decide))) h1 h2 h3 ?_
                  refine W.eq (g2 := F0 mth 386 ls [.ref q9]) rfl ?_
                  refine lv_astore (lv' := [(6, .ref q9), (0, .ref (dad g p0)), (1, .int p1), (2, .int p2), (3, .int p3), (4, .int p4), (5, .int p5)]) S.1 S.2.1 dL_act_386 hl (by decide) rfl (fun ls hl => ?_)
                  refine lv_ldc2 (v := (-72)) S.1 S.2.1 S.2.2.2.1 (S.2.2.2.2 (.constantLong RL 104 (-72)) (List.mem_of_getElem? (i := 5) rfl)) dL_act_388 ?_
                  obtain ⟨rfl, rfl⟩ := Prod.mk.inj (Option.some.inj h)
                  exact dLtj S hr hlk hE hP hS (Nat.le_of_ble_eq_true rfl) (Nat.le_of_ble_eq_true rfl) dL_act_391
                · have h := d_f hk1 h
                  by_cases hk2 : kx = 2
                  · obtain rfl : kx = 2 := hk2
                    have h := d_t (rfl : (2 : Nat) = 2) h
                    refine vx_catch (E := dEx 2) (name := "java/lang/IllegalStateException") S.2.2.2.1 [{ startPc := 0, endPc := 379, handlerPc := 380, catchType := 98 }, { startPc := 0, endPc := 379, handlerPc := 386, catchType := 102 }] { startPc := 0, endPc := 379, handlerPc := 392, catchType := 106 } [] (htab.trans rfl) (fun z hz => by simp only [List.mem_cons, List.not_mem_nil, or_false] at hz; rcases hz with rfl | rfl; exact Or.inr ⟨by decide, "java/lang/IndexOutOfBoundsException", S.2.2.2.2 (.classLink RL 98 "java/lang/IndexOutOfBoundsException") (List.mem_of_getElem? (i := 1) rfl), hE.2.2.2.2.2.2.2.2.2 (dEx 2) (by decide) "java/lang/IndexOutOfBoundsException" (by decide) (by decide)⟩; exact Or.inr ⟨by decide, "java/lang/IllegalArgumentException", S.2.2.2.2 (.classLink RL 102 "java/lang/IllegalArgumentException") (List.mem_of_getElem? (i := 2) rfl), hE.2.2.2.2.2.2.2.2.2 (dEx 2) (by decide) "java/lang/IllegalArgumentException" (by decide) (by decide)⟩) (by decide) (by decide) (S.2.2.2.2 (.classLink RL 106 "java/lang/IllegalStateException") (List.mem_of_getElem? (i := 3) rfl)) (va_Nw.use rfl (hE.2.2.2.2.2.2.2.2.1 "java/lang/IllegalStateException" (by decide))) h1 h2 h3 ?_
                    refine W.eq (g2 := F0 mth 392 ls [.ref q9]) rfl ?_
                    refine lv_astore (lv' := [(6, .ref q9), (0, .ref (dad g p0)), (1, .int p1), (2, .int p2), (3, .int p3), (4, .int p4), (5, .int p5)]) S.1 S.2.1 dL_act_392 hl (by decide) rfl (fun ls hl => ?_)
                    refine lv_ldc2 (v := (-73)) S.1 S.2.1 S.2.2.2.1 (S.2.2.2.2 (.constantLong RL 108 (-73)) (List.mem_of_getElem? (i := 6) rfl)) dL_act_394 ?_
                    obtain ⟨rfl, rfl⟩ := Prod.mk.inj (Option.some.inj h)
                    exact dLtj S hr hlk hE hP hS (Nat.le_of_ble_eq_true rfl) (Nat.le_of_ble_eq_true rfl) dL_act_397
                  · have h := d_f hk2 h
                    cases h
            · subst eo
              have h := d_s2 h
              have h := d_p2 h
              refine lv_i2l S.1 S.2.1 dL_act_82 rfl ?_
              refine lv_goto (tgt := 379) S.1 S.2.1 dL_act_83 (by decide) ?_
              obtain ⟨rfl, rfl⟩ := Prod.mk.inj (Option.some.inj h)
              exact dLtj S hr hlk hE hP hS (Nat.le_of_ble_eq_true rfl) (Nat.le_of_ble_eq_true rfl) dL_act_379
      · have h := d_t cq h
        refine lv_aload_n S.1 S.2.1 dL_act_33 rfl (lv_at hl 0 rfl) ?_
        refine lv_iload_n S.1 S.2.1 dL_act_34 rfl (lv_at hl 2 rfl) ?_
        refine lv_iload_n S.1 S.2.1 dL_act_35 rfl (lv_at hl 3 rfl) ?_
        refine lv_iconst (v := 1) S.1 S.2.1 dL_act_36 (by decide) ?_
        refine lv_icmp_ne (tgt := 44) S.1 S.2.1 dL_act_37 (by decide) (fun cq => ?_) (fun cq => ?_)
        · have h := d_f cq h
          refine lv_iconst (v := 0) S.1 S.2.1 dL_act_44 (by decide) ?_
          obtain ⟨q83, hc81, h⟩ := d_b h
          refine dxri (o := q83) (vx_runV (As := [.int p2, .int 0]) (rest := []) S (kX11_ill l g hst hc81) (cwV 2 S.2.2.2.2 gL_act_X11_ill rfl rfl rfl ynX11_ill ⟨Nat.le_of_ble_eq_true rfl, Nat.le_of_ble_eq_true rfl⟩) (dpV hE hP hS (ci := 11) rfl (dat12 k0)) rfl rfl hl.1 rfl (lv_room (Nat.le_of_ble_eq_true rfl)) dL_act_45 ⟨Nat.le_of_ble_eq_true rfl, Nat.le_of_ble_eq_true rfl⟩) hS (fun u q9 ce H locs eo hP hS h1 h2 h3 => ?_) (fun v84 m82 H locs eo hP hS => ?_)
          · subst eo
            have h := d_s1 h
            obtain ⟨kx, mx⟩ := u
            have h := d_p2 h
            have hP : va_P g.1 vwCl (dws g mx) H := hP
            have h3 : s.vm.findClass (dEx kx) = some ce.cls := h3
            by_cases hk0 : kx = 3
            · obtain rfl : kx = 3 := hk0
              have h := d_t (rfl : (3 : Nat) = 3) h
              refine vx_catch (E := dEx 3) (name := "java/lang/IndexOutOfBoundsException") S.2.2.2.1 [] { startPc := 0, endPc := 379, handlerPc := 380, catchType := 98 } [{ startPc := 0, endPc := 379, handlerPc := 386, catchType := 102 }, { startPc := 0, endPc := 379, handlerPc := 392, catchType := 106 }] (htab.trans rfl) (fun z hz => by simp at hz) (by decide) (by decide) (S.2.2.2.2 (.classLink RL 98 "java/lang/IndexOutOfBoundsException") (List.mem_of_getElem? (i := 1) rfl)) (va_Nw.use rfl (hE.2.2.2.2.2.2.2.2.1 "java/lang/IndexOutOfBoundsException" (by decide))) h1 h2 h3 ?_
              refine W.eq (g2 := F0 mth 380 ls [.ref q9]) rfl ?_
              refine lv_astore (lv' := [(6, .ref q9), (0, .ref (dad g p0)), (1, .int p1), (2, .int p2), (3, .int p3), (4, .int p4), (5, .int p5)]) S.1 S.2.1 dL_act_380 hl (by decide) rfl (fun ls hl => ?_)
              refine lv_ldc2 (v := (-71)) S.1 S.2.1 S.2.2.2.1 (S.2.2.2.2 (.constantLong RL 100 (-71)) (List.mem_of_getElem? (i := 4) rfl)) dL_act_382 ?_
              obtain ⟨rfl, rfl⟩ := Prod.mk.inj (Option.some.inj h)
              exact dLtj S hr hlk hE hP hS (Nat.le_of_ble_eq_true rfl) (Nat.le_of_ble_eq_true rfl) dL_act_385
            · have h := d_f hk0 h
              by_cases hk1 : kx = 1
              · obtain rfl : kx = 1 := hk1
                have h := d_t (rfl : (1 : Nat) = 1) h
                refine vx_catch (E := dEx 1) (name := "java/lang/IllegalArgumentException") S.2.2.2.1 [{ startPc := 0, endPc := 379, handlerPc := 380, catchType := 98 }] { startPc := 0, endPc := 379, handlerPc := 386, catchType := 102 } [{ startPc := 0, endPc := 379, handlerPc := 392, catchType := 106 }] (htab.trans rfl) (fun z hz => by simp only [List.mem_cons, List.not_mem_nil, or_false] at hz; subst hz; exact Or.inr ⟨by decide, "java/lang/IndexOutOfBoundsException", S.2.2.2.2 (.classLink RL 98 "java/lang/IndexOutOfBoundsException") (List.mem_of_getElem? (i := 1) rfl), hE.2.2.2.2.2.2.2.2.2 (dEx 1) (by decide) "java/lang/IndexOutOfBoundsException" (by decide) (by decide)⟩) (by decide) (by decide) (S.2.2.2.2 (.classLink RL 102 "java/lang/IllegalArgumentException") (List.mem_of_getElem? (i := 2) rfl)) (va_Nw.use rfl (hE.2.2.2.2.2.2.2.2.1 "java/lang/IllegalArgumentException" (by decide))) h1 h2 h3 ?_
                refine W.eq (g2 := F0 mth 386 ls [.ref q9]) rfl ?_
                refine lv_astore (lv' := [(6, .ref q9), (0, .ref (dad g p0)), (1, .int p1), (2, .int p2), (3, .int p3), (4, .int p4), (5, .int p5)]) S.1 S.2.1 dL_act_386 hl (by decide) rfl (fun ls hl => ?_)
                refine lv_ldc2 (v := (-72)) S.1 S.2.1 S.2.2.2.1 (S.2.2.2.2 (.constantLong RL 104 (-72)) (List.mem_of_getElem? (i := 5) rfl)) dL_act_388 ?_
                obtain ⟨rfl, rfl⟩ := Prod.mk.inj (Option.some.inj h)
                exact dLtj S hr hlk hE hP hS (Nat.le_of_ble_eq_true rfl) (Nat.le_of_ble_eq_true rfl) dL_act_391
              · have h := d_f hk1 h
                by_cases hk2 : kx = 2
                · obtain rfl : kx = 2 := hk2
                  have h := d_t (rfl : (2 : Nat) = 2) h
                  refine vx_catch (E := dEx 2) (name := "java/lang/IllegalStateException") S.2.2.2.1 [{ startPc := 0, endPc := 379, handlerPc := 380, catchType := 98 }, { startPc := 0, endPc := 379, handlerPc := 386, catchType := 102 }] { startPc := 0, endPc := 379, handlerPc := 392, catchType := 106 } [] (htab.trans rfl) (fun z hz => by simp only [List.mem_cons, List.not_mem_nil, or_false] at hz; rcases hz with rfl | rfl; exact Or.inr ⟨by decide, "java/lang/IndexOutOfBoundsException", S.2.2.2.2 (.classLink RL 98 "java/lang/IndexOutOfBoundsException") (List.mem_of_getElem? (i := 1) rfl), hE.2.2.2.2.2.2.2.2.2 (dEx 2) (by decide) "java/lang/IndexOutOfBoundsException" (by decide) (by decide)⟩; exact Or.inr ⟨by decide, "java/lang/IllegalArgumentException", S.2.2.2.2 (.classLink RL 102 "java/lang/IllegalArgumentException") (List.mem_of_getElem? (i := 2) rfl), hE.2.2.2.2.2.2.2.2.2 (dEx 2) (by decide) "java/lang/IllegalArgumentException" (by decide) (by decide)⟩) (by decide) (by decide) (S.2.2.2.2 (.classLink RL 106 "java/lang/IllegalStateException") (List.mem_of_getElem? (i := 3) rfl)) (va_Nw.use rfl (hE.2.2.2.2.2.2.2.2.1 "java/lang/IllegalStateException" (by decide))) h1 h2 h3 ?_
                  refine W.eq (g2 := F0 mth 392 ls [.ref q9]) rfl ?_
                  refine lv_astore (lv' := [(6, .ref q9), (0, .ref (dad g p0)), (1, .int p1), (2, .int p2), (3, .int p3), (4, .int p4), (5, .int p5)]) S.1 S.2.1 dL_act_392 hl (by decide) rfl (fun ls hl => ?_)
                  refine lv_ldc2 (v := (-73)) S.1 S.2.1 S.2.2.2.1 (S.2.2.2.2 (.constantLong RL 108 (-73)) (List.mem_of_getElem? (i := 6) rfl)) dL_act_394 ?_
                  obtain ⟨rfl, rfl⟩ := Prod.mk.inj (Option.some.inj h)
                  exact dLtj S hr hlk hE hP hS (Nat.le_of_ble_eq_true rfl) (Nat.le_of_ble_eq_true rfl) dL_act_397
                · have h := d_f hk2 h
                  cases h
          · subst eo
            have h := d_s2 h
            have h := d_p2 h
            refine lv_if_eq (tgt := 55) S.1 S.2.1 dL_act_48 (by decide) (fun cq => ?_) (fun cq => ?_)
            · have h := d_t cq h
              refine lv_iconst (v := 0) S.1 S.2.1 dL_act_55 (by decide) ?_
              refine lv_i2l S.1 S.2.1 dL_act_56 rfl ?_
              refine lv_goto (tgt := 379) S.1 S.2.1 dL_act_57 (by decide) ?_
              obtain ⟨rfl, rfl⟩ := Prod.mk.inj (Option.some.inj h)
              exact dLtj S hr hlk hE hP hS (Nat.le_of_ble_eq_true rfl) (Nat.le_of_ble_eq_true rfl) dL_act_379
            · have h := d_f cq h
              refine lv_iconst (v := 1) S.1 S.2.1 dL_act_51 (by decide) ?_
              refine lv_goto (tgt := 56) S.1 S.2.1 dL_act_52 (by decide) ?_
              refine lv_i2l S.1 S.2.1 dL_act_56 rfl ?_
              refine lv_goto (tgt := 379) S.1 S.2.1 dL_act_57 (by decide) ?_
              obtain ⟨rfl, rfl⟩ := Prod.mk.inj (Option.some.inj h)
              exact dLtj S hr hlk hE hP hS (Nat.le_of_ble_eq_true rfl) (Nat.le_of_ble_eq_true rfl) dL_act_379
        · have h := d_t cq h
          refine lv_iconst (v := 1) S.1 S.2.1 dL_act_40 (by decide) ?_
          refine lv_goto (tgt := 45) S.1 S.2.1 dL_act_41 (by decide) ?_
          obtain ⟨q87, hc85, h⟩ := d_b h
          refine dxri (o := q87) (vx_runV (As := [.int p2, .int 1]) (rest := []) S (kX11_ill l g hst hc85) (cwV 2 S.2.2.2.2 gL_act_X11_ill rfl rfl rfl ynX11_ill ⟨Nat.le_of_ble_eq_true rfl, Nat.le_of_ble_eq_true rfl⟩) (dpV hE hP hS (ci := 11) rfl (dat12 k0)) rfl rfl hl.1 rfl (lv_room (Nat.le_of_ble_eq_true rfl)) dL_act_45 ⟨Nat.le_of_ble_eq_true rfl, Nat.le_of_ble_eq_true rfl⟩) hS (fun u q9 ce H locs eo hP hS h1 h2 h3 => ?_) (fun v88 m86 H locs eo hP hS => ?_)
          · subst eo
            have h := d_s1 h
            obtain ⟨kx, mx⟩ := u
            have h := d_p2 h
            have hP : va_P g.1 vwCl (dws g mx) H := hP
            have h3 : s.vm.findClass (dEx kx) = some ce.cls := h3
            by_cases hk0 : kx = 3
            · obtain rfl : kx = 3 := hk0
              have h := d_t (rfl : (3 : Nat) = 3) h
              refine vx_catch (E := dEx 3) (name := "java/lang/IndexOutOfBoundsException") S.2.2.2.1 [] { startPc := 0, endPc := 379, handlerPc := 380, catchType := 98 } [{ startPc := 0, endPc := 379, handlerPc := 386, catchType := 102 }, { startPc := 0, endPc := 379, handlerPc := 392, catchType := 106 }] (htab.trans rfl) (fun z hz => by simp at hz) (by decide) (by decide) (S.2.2.2.2 (.classLink RL 98 "java/lang/IndexOutOfBoundsException") (List.mem_of_getElem? (i := 1) rfl)) (va_Nw.use rfl (hE.2.2.2.2.2.2.2.2.1 "java/lang/IndexOutOfBoundsException" (by decide))) h1 h2 h3 ?_
              refine W.eq (g2 := F0 mth 380 ls [.ref q9]) rfl ?_
              refine lv_astore (lv' := [(6, .ref q9), (0, .ref (dad g p0)), (1, .int p1), (2, .int p2), (3, .int p3), (4, .int p4), (5, .int p5)]) S.1 S.2.1 dL_act_380 hl (by decide) rfl (fun ls hl => ?_)
              refine lv_ldc2 (v := (-71)) S.1 S.2.1 S.2.2.2.1 (S.2.2.2.2 (.constantLong RL 100 (-71)) (List.mem_of_getElem? (i := 4) rfl)) dL_act_382 ?_
              obtain ⟨rfl, rfl⟩ := Prod.mk.inj (Option.some.inj h)
              exact dLtj S hr hlk hE hP hS (Nat.le_of_ble_eq_true rfl) (Nat.le_of_ble_eq_true rfl) dL_act_385
            · have h := d_f hk0 h
              by_cases hk1 : kx = 1
              · obtain rfl : kx = 1 := hk1
                have h := d_t (rfl : (1 : Nat) = 1) h
                refine vx_catch (E := dEx 1) (name := "java/lang/IllegalArgumentException") S.2.2.2.1 [{ startPc := 0, endPc := 379, handlerPc := 380, catchType := 98 }] { startPc := 0, endPc := 379, handlerPc := 386, catchType := 102 } [{ startPc := 0, endPc := 379, handlerPc := 392, catchType := 106 }] (htab.trans rfl) (fun z hz => by simp only [List.mem_cons, List.not_mem_nil, or_false] at hz; subst hz; exact Or.inr ⟨by decide, "java/lang/IndexOutOfBoundsException", S.2.2.2.2 (.classLink RL 98 "java/lang/IndexOutOfBoundsException") (List.mem_of_getElem? (i := 1) rfl), hE.2.2.2.2.2.2.2.2.2 (dEx 1) (by decide) "java/lang/IndexOutOfBoundsException" (by decide) (by decide)⟩) (by decide) (by decide) (S.2.2.2.2 (.classLink RL 102 "java/lang/IllegalArgumentException") (List.mem_of_getElem? (i := 2) rfl)) (va_Nw.use rfl (hE.2.2.2.2.2.2.2.2.1 "java/lang/IllegalArgumentException" (by decide))) h1 h2 h3 ?_
                refine W.eq (g2 := F0 mth 386 ls [.ref q9]) rfl ?_
                refine lv_astore (lv' := [(6, .ref q9), (0, .ref (dad g p0)), (1, .int p1), (2, .int p2), (3, .int p3), (4, .int p4), (5, .int p5)]) S.1 S.2.1 dL_act_386 hl (by decide) rfl (fun ls hl => ?_)
                refine lv_ldc2 (v := (-72)) S.1 S.2.1 S.2.2.2.1 (S.2.2.2.2 (.constantLong RL 104 (-72)) (List.mem_of_getElem? (i := 5) rfl)) dL_act_388 ?_
                obtain ⟨rfl, rfl⟩ := Prod.mk.inj (Option.some.inj h)
                exact dLtj S hr hlk hE hP hS (Nat.le_of_ble_eq_true rfl) (Nat.le_of_ble_eq_true rfl) dL_act_391
              · have h := d_f hk1 h
                by_cases hk2 : kx = 2
                · obtain rfl : kx = 2 := hk2
                  have h := d_t (rfl : (2 : Nat) = 2) h
                  refine vx_catch (E := dEx 2) (name := "java/lang/IllegalStateException") S.2.2.2.1 [{ startPc := 0, endPc := 379, handlerPc := 380, catchType := 98 }, { startPc := 0, endPc := 379, handlerPc := 386, catchType := 102 }] { startPc := 0, endPc := 379, handlerPc := 392, catchType := 106 } [] (htab.trans rfl) (fun z hz => by simp only [List.mem_cons, List.not_mem_nil, or_false] at hz; rcases hz with rfl | rfl; exact Or.inr ⟨by decide, "java/lang/IndexOutOfBoundsException", S.2.2.2.2 (.classLink RL 98 "java/lang/IndexOutOfBoundsException") (List.mem_of_getElem? (i := 1) rfl), hE.2.2.2.2.2.2.2.2.2 (dEx 2) (by decide) "java/lang/IndexOutOfBoundsException" (by decide) (by decide)⟩; exact Or.inr ⟨by decide, "java/lang/IllegalArgumentException", S.2.2.2.2 (.classLink RL 102 "java/lang/IllegalArgumentException") (List.mem_of_getElem? (i := 2) rfl), hE.2.2.2.2.2.2.2.2.2 (dEx 2) (by decide) "java/lang/IllegalArgumentException" (by decide) (by decide)⟩) (by decide) (by decide) (S.2.2.2.2 (.classLink RL 106 "java/lang/IllegalStateException") (List.mem_of_getElem? (i := 3) rfl)) (va_Nw.use rfl (hE.2.2.2.2.2.2.2.2.1 "java/lang/IllegalStateException" (by decide))) h1 h2 h3 ?_
                  refine W.eq (g2 := F0 mth 392 ls [.ref q9]) rfl ?_
                  refine lv_astore (lv' := [(6, .ref q9), (0, .ref (dad g p0)), (1, .int p1), (2, .int p2), (3, .int p3), (4, .int p4), (5, .int p5)]) S.1 S.2.1 dL_act_392 hl (by decide) rfl (fun ls hl => ?_)
                  refine lv_ldc2 (v := (-73)) S.1 S.2.1 S.2.2.2.1 (S.2.2.2.2 (.constantLong RL 108 (-73)) (List.mem_of_getElem? (i := 6) rfl)) dL_act_394 ?_
                  obtain ⟨rfl, rfl⟩ := Prod.mk.inj (Option.some.inj h)
                  exact dLtj S hr hlk hE hP hS (Nat.le_of_ble_eq_true rfl) (Nat.le_of_ble_eq_true rfl) dL_act_397
                · have h := d_f hk2 h
                  cases h
          · subst eo
            have h := d_s2 h
            have h := d_p2 h
            refine lv_if_eq (tgt := 55) S.1 S.2.1 dL_act_48 (by decide) (fun cq => ?_) (fun cq => ?_)
            · have h := d_t cq h
              refine lv_iconst (v := 0) S.1 S.2.1 dL_act_55 (by decide) ?_
              refine lv_i2l S.1 S.2.1 dL_act_56 rfl ?_
              refine lv_goto (tgt := 379) S.1 S.2.1 dL_act_57 (by decide) ?_
              obtain ⟨rfl, rfl⟩ := Prod.mk.inj (Option.some.inj h)
              exact dLtj S hr hlk hE hP hS (Nat.le_of_ble_eq_true rfl) (Nat.le_of_ble_eq_true rfl) dL_act_379
            · have h := d_f cq h
              refine lv_iconst (v := 1) S.1 S.2.1 dL_act_51 (by decide) ?_
              refine lv_goto (tgt := 56) S.1 S.2.1 dL_act_52 (by decide) ?_
              refine lv_i2l S.1 S.2.1 dL_act_56 rfl ?_
              refine lv_goto (tgt := 379) S.1 S.2.1 dL_act_57 (by decide) ?_
              obtain ⟨rfl, rfl⟩ := Prod.mk.inj (Option.some.inj h)
              exact dLtj S hr hlk hE hP hS (Nat.le_of_ble_eq_true rfl) (Nat.le_of_ble_eq_true rfl) dL_act_379
    · have h := d_t cq h
      refine lv_aload_n S.1 S.2.1 dL_act_18 rfl (lv_at hl 0 rfl) ?_
      refine lv_iload_n S.1 S.2.1 dL_act_19 rfl (lv_at hl 2 rfl) ?_
      refine lv_iload_n S.1 S.2.1 dL_act_20 rfl (lv_at hl 3 rfl) ?_
      obtain ⟨q91, hc89, h⟩ := d_b h
      refine dxri (o := q91) (vx_runV (As := [.int p2, .int p3]) (rest := []) S (kX11_legs l g hst hc89) (cwV 2 S.2.2.2.2 gL_act_X11_legs rfl rfl rfl ynX11_legs ⟨Nat.le_of_ble_eq_true rfl, Nat.le_of_ble_eq_true rfl⟩) (dpV hE hP hS (ci := 11) rfl (dat12 k0)) rfl rfl hl.1 rfl (lv_room (Nat.le_of_ble_eq_true rfl)) dL_act_21 ⟨Nat.le_of_ble_eq_true rfl, Nat.le_of_ble_eq_true rfl⟩) hS (fun u q9 ce H locs eo hP hS h1 h2 h3 => ?_) (fun v92 m90 H locs eo hP hS => ?_)
      · subst eo
        have h := d_s1 h
        obtain ⟨kx, mx⟩ := u
        have h := d_p2 h
        have hP : va_P g.1 vwCl (dws g mx) H := hP
        have h3 : s.vm.findClass (dEx kx) = some ce.cls := h3
        by_cases hk0 : kx = 3
        · obtain rfl : kx = 3 := hk0
          have h := d_t (rfl : (3 : Nat) = 3) h
          refine vx_catch (E := dEx 3) (name := "java/lang/IndexOutOfBoundsException") S.2.2.2.1 [] { startPc := 0, endPc := 379, handlerPc := 380, catchType := 98 } [{ startPc := 0, endPc := 379, handlerPc := 386, catchType := 102 }, { startPc := 0, endPc := 379, handlerPc := 392, catchType := 106 }] (htab.trans rfl) (fun z hz => by simp at hz) (by decide) (by decide) (S.2.2.2.2 (.classLink RL 98 "java/lang/IndexOutOfBoundsException") (List.mem_of_getElem? (i := 1) rfl)) (va_Nw.use rfl (hE.2.2.2.2.2.2.2.2.1 "java/lang/IndexOutOfBoundsException" (by decide))) h1 h2 h3 ?_
          refine W.eq (g2 := F0 mth 380 ls [.ref q9]) rfl ?_
          refine lv_astore (lv' := [(6, .ref q9), (0, .ref (dad g p0)), (1, .int p1), (2, .int p2), (3, .int p3), (4, .int p4), (5, .int p5)]) S.1 S.2.1 dL_act_380 hl (by decide) rfl (fun ls hl => ?_)
          refine lv_ldc2 (v := (-71)) S.1 S.2.1 S.2.2.2.1 (S.2.2.2.2 (.constantLong RL 100 (-71)) (List.mem_of_getElem? (i := 4) rfl)) dL_act_382 ?_
          obtain ⟨rfl, rfl⟩ := Prod.mk.inj (Option.some.inj h)
          exact dLtj S hr hlk hE hP hS (Nat.le_of_ble_eq_true rfl) (Nat.le_of_ble_eq_true rfl) dL_act_385
        · have h := d_f hk0 h
          by_cases hk1 : kx = 1
          · obtain rfl : kx = 1 := hk1
            have h := d_t (rfl : (1 : Nat) = 1) h
            refine vx_catch (E := dEx 1) (name := "java/lang/IllegalArgumentException") S.2.2.2.1 [{ startPc := 0, endPc := 379, handlerPc := 380, catchType := 98 }] { startPc := 0, endPc := 379, handlerPc := 386, catchType := 102 } [{ startPc := 0, endPc := 379, handlerPc := 392, catchType := 106 }] (htab.trans rfl) (fun z hz => by simp only [List.mem_cons, List.not_mem_nil, or_false] at hz; subst hz; exact Or.inr ⟨by decide, "java/lang/IndexOutOfBoundsException", S.2.2.2.2 (.classLink RL 98 "java/lang/IndexOutOfBoundsException") (List.mem_of_getElem? (i := 1) rfl), hE.2.2.2.2.2.2.2.2.2 (dEx 1) (by decide) "java/lang/IndexOutOfBoundsException" (by decide) (by decide)⟩) (by decide) (by decide) (S.2.2.2.2 (.classLink RL 102 "java/lang/IllegalArgumentException") (List.mem_of_getElem? (i := 2) rfl)) (va_Nw.use rfl (hE.2.2.2.2.2.2.2.2.1 "java/lang/IllegalArgumentException" (by decide))) h1 h2 h3 ?_
            refine W.eq (g2 := F0 mth 386 ls [.ref q9]) rfl ?_
            refine lv_astore (lv' := [(6, .ref q9), (0, .ref (dad g p0)), (1, .int p1), (2, .int p2), (3, .int p3), (4, .int p4), (5, .int p5)]) S.1 S.2.1 dL_act_386 hl (by decide) rfl (fun ls hl => ?_)
            refine lv_ldc2 (v := (-72)) S.1 S.2.1 S.2.2.2.1 (S.2.2.2.2 (.constantLong RL 104 (-72)) (List.mem_of_getElem? (i := 5) rfl)) dL_act_388 ?_
            obtain ⟨rfl, rfl⟩ := Prod.mk.inj (Option.some.inj h)
            exact dLtj S hr hlk hE hP hS (Nat.le_of_ble_eq_true rfl) (Nat.le_of_ble_eq_true rfl) dL_act_391
          · have h := d_f hk1 h
            by_cases hk2 : kx = 2
            · obtain rfl : kx = 2 := hk2
              have h := d_t (rfl : (2 : Nat) = 2) h
              refine vx_catch (E := dEx 2) (name := "java/lang/IllegalStateException") S.2.2.2.1 [{ startPc := 0, endPc := 379, handlerPc := 380, catchType := 98 }, { startPc := 0, endPc := 379, handlerPc := 386, catchType := 102 }] { startPc := 0, endPc := 379, handlerPc := 392, catchType := 106 } [] (htab.trans rfl) (fun z hz => by simp only [List.mem_cons, List.not_mem_nil, or_false] at hz; rcases hz with rfl | rfl; exact Or.inr ⟨by decide, "java/lang/IndexOutOfBoundsException", S.2.2.2.2 (.classLink RL 98 "java/lang/IndexOutOfBoundsException") (List.mem_of_getElem? (i := 1) rfl), hE.2.2.2.2.2.2.2.2.2 (dEx 2) (by decide) "java/lang/IndexOutOfBoundsException" (by decide) (by decide)⟩; exact Or.inr ⟨by decide, "java/lang/IllegalArgumentException", S.2.2.2.2 (.classLink RL 102 "java/lang/IllegalArgumentException") (List.mem_of_getElem? (i := 2) rfl), hE.2.2.2.2.2.2.2.2.2 (dEx 2) (by decide) "java/lang/IllegalArgumentException" (by decide) (by decide)⟩) (by decide) (by decide) (S.2.2.2.2 (.classLink RL 106 "java/lang/IllegalStateException") (List.mem_of_getElem? (i := 3) rfl)) (va_Nw.use rfl (hE.2.2.2.2.2.2.2.2.1 "java/lang/IllegalStateException" (by decide))) h1 h2 h3 ?_
              refine W.eq (g2 := F0 mth 392 ls [.ref q9]) rfl ?_
              refine lv_astore (lv' := [(6, .ref q9), (0, .ref (dad g p0)), (1, .int p1), (2, .int p2), (3, .int p3), (4, .int p4), (5, .int p5)]) S.1 S.2.1 dL_act_392 hl (by decide) rfl (fun ls hl => ?_)
              refine lv_ldc2 (v := (-73)) S.1 S.2.1 S.2.2.2.1 (S.2.2.2.2 (.constantLong RL 108 (-73)) (List.mem_of_getElem? (i := 6) rfl)) dL_act_394 ?_
              obtain ⟨rfl, rfl⟩ := Prod.mk.inj (Option.some.inj h)
              exact dLtj S hr hlk hE hP hS (Nat.le_of_ble_eq_true rfl) (Nat.le_of_ble_eq_true rfl) dL_act_397
            · have h := d_f hk2 h
              cases h
      · subst eo
        have h := d_s2 h
        have h := d_p2 h
        refine lv_i2l S.1 S.2.1 dL_act_24 rfl ?_
        refine lv_goto (tgt := 379) S.1 S.2.1 dL_act_25 (by decide) ?_
        obtain ⟨rfl, rfl⟩ := Prod.mk.inj (Option.some.inj h)
        exact dLtj S hr hlk hE hP hS (Nat.le_of_ble_eq_true rfl) (Nat.le_of_ble_eq_true rfl) dL_act_379
  · have h := d_t cq h
    refine lv_aload_n S.1 S.2.1 dL_act_4 rfl (lv_at hl 0 rfl) ?_
    refine lv_iload_n S.1 S.2.1 dL_act_5 rfl (lv_at hl 2 rfl) ?_
    obtain ⟨q95, hc93, h⟩ := d_b h
    refine dxri (o := q95) (vx_runS (As := [.ref (dad g p0), .int p2]) (rest := []) S (kL_band l g hst hc93) (va_cwS 2 S.2.2.2.2 gL_act_L_band rfl rfl rfl ynL_band ⟨Nat.le_of_ble_eq_true rfl, Nat.le_of_ble_eq_true rfl⟩) (dpS hE hP hS) rfl rfl hl.1 rfl (lv_room (Nat.le_of_ble_eq_true rfl)) dL_act_6 ⟨Nat.le_of_ble_eq_true rfl, Nat.le_of_ble_eq_true rfl⟩) hS (fun u q9 ce H locs eo hP hS h1 h2 h3 => ?_) (fun v96 m94 H locs eo hP hS => ?_)
    · subst eo
      have h := d_s1 h
      obtain ⟨kx, mx⟩ := u
      have h := d_p2 h
      have hP : va_P g.1 vwCl (dws g mx) H := hP
      have h3 : s.vm.findClass (dEx kx) = some ce.cls := h3
      by_cases hk0 : kx = 3
      · obtain rfl : kx = 3 := hk0
        have h := d_t (rfl : (3 : Nat) = 3) h
        refine vx_catch (E := dEx 3) (name := "java/lang/IndexOutOfBoundsException") S.2.2.2.1 [] { startPc := 0, endPc := 379, handlerPc := 380, catchType := 98 } [{ startPc := 0, endPc := 379, handlerPc := 386, catchType := 102 }, { startPc := 0, endPc := 379, handlerPc := 392, catchType := 106 }] (htab.trans rfl) (fun z hz => by simp at hz) (by decide) (by decide) (S.2.2.2.2 (.classLink RL 98 "java/lang/IndexOutOfBoundsException") (List.mem_of_getElem? (i := 1) rfl)) (va_Nw.use rfl (hE.2.2.2.2.2.2.2.2.1 "java/lang/IndexOutOfBoundsException" (by decide))) h1 h2 h3 ?_
        refine W.eq (g2 := F0 mth 380 ls [.ref q9]) rfl ?_
        refine lv_astore (lv' := [(6, .ref q9), (0, .ref (dad g p0)), (1, .int p1), (2, .int p2), (3, .int p3), (4, .int p4), (5, .int p5)]) S.1 S.2.1 dL_act_380 hl (by decide) rfl (fun ls hl => ?_)
        refine lv_ldc2 (v := (-71)) S.1 S.2.1 S.2.2.2.1 (S.2.2.2.2 (.constantLong RL 100 (-71)) (List.mem_of_getElem? (i := 4) rfl)) dL_act_382 ?_
        obtain ⟨rfl, rfl⟩ := Prod.mk.inj (Option.some.inj h)
        exact dLtj S hr hlk hE hP hS (Nat.le_of_ble_eq_true rfl) (Nat.le_of_ble_eq_true rfl) dL_act_385
      · have h := d_f hk0 h
        by_cases hk1 : kx = 1
        · obtain rfl : kx = 1 := hk1
          have h := d_t (rfl : (1 : Nat) = 1) h
          refine vx_catch (E := dEx 1) (name := "java/lang/IllegalArgumentException") S.2.2.2.1 [{ startPc := 0, endPc := 379, handlerPc := 380, catchType := 98 }] { startPc := 0, endPc := 379, handlerPc := 386, catchType := 102 } [{ startPc := 0, endPc := 379, handlerPc := 392, catchType := 106 }] (htab.trans rfl) (fun z hz => by simp only [List.mem_cons, List.not_mem_nil, or_false] at hz; subst hz; exact Or.inr ⟨by decide, "java/lang/IndexOutOfBoundsException", S.2.2.2.2 (.classLink RL 98 "java/lang/IndexOutOfBoundsException") (List.mem_of_getElem? (i := 1) rfl), hE.2.2.2.2.2.2.2.2.2 (dEx 1) (by decide) "java/lang/IndexOutOfBoundsException" (by decide) (by decide)⟩) (by decide) (by decide) (S.2.2.2.2 (.classLink RL 102 "java/lang/IllegalArgumentException") (List.mem_of_getElem? (i := 2) rfl)) (va_Nw.use rfl (hE.2.2.2.2.2.2.2.2.1 "java/lang/IllegalArgumentException" (by decide))) h1 h2 h3 ?_
          refine W.eq (g2 := F0 mth 386 ls [.ref q9]) rfl ?_
          refine lv_astore (lv' := [(6, .ref q9), (0, .ref (dad g p0)), (1, .int p1), (2, .int p2), (3, .int p3), (4, .int p4), (5, .int p5)]) S.1 S.2.1 dL_act_386 hl (by decide) rfl (fun ls hl => ?_)
          refine lv_ldc2 (v := (-72)) S.1 S.2.1 S.2.2.2.1 (S.2.2.2.2 (.constantLong RL 104 (-72)) (List.mem_of_getElem? (i := 5) rfl)) dL_act_388 ?_
          obtain ⟨rfl, rfl⟩ := Prod.mk.inj (Option.some.inj h)
          exact dLtj S hr hlk hE hP hS (Nat.le_of_ble_eq_true rfl) (Nat.le_of_ble_eq_true rfl) dL_act_391
        · have h := d_f hk1 h
          by_cases hk2 : kx = 2
          · obtain rfl : kx = 2 := hk2
            have h := d_t (rfl : (2 : Nat) = 2) h
            refine vx_catch (E := dEx 2) (name := "java/lang/IllegalStateException") S.2.2.2.1 [{ startPc := 0, endPc := 379, handlerPc := 380, catchType := 98 }, { startPc := 0, endPc := 379, handlerPc := 386, catchType := 102 }] { startPc := 0, endPc := 379, handlerPc := 392, catchType := 106 } [] (htab.trans rfl) (fun z hz => by simp only [List.mem_cons, List.not_mem_nil, or_false] at hz; rcases hz with rfl | rfl; exact Or.inr ⟨by decide, "java/lang/IndexOutOfBoundsException", S.2.2.2.2 (.classLink RL 98 "java/lang/IndexOutOfBoundsException") (List.mem_of_getElem? (i := 1) rfl), hE.2.2.2.2.2.2.2.2.2 (dEx 2) (by decide) "java/lang/IndexOutOfBoundsException" (by decide) (by decide)⟩; exact Or.inr ⟨by decide, "java/lang/IllegalArgumentException", S.2.2.2.2 (.classLink RL 102 "java/lang/IllegalArgumentException") (List.mem_of_getElem? (i := 2) rfl), hE.2.2.2.2.2.2.2.2.2 (dEx 2) (by decide) "java/lang/IllegalArgumentException" (by decide) (by decide)⟩) (by decide) (by decide) (S.2.2.2.2 (.classLink RL 106 "java/lang/IllegalStateException") (List.mem_of_getElem? (i := 3) rfl)) (va_Nw.use rfl (hE.2.2.2.2.2.2.2.2.1 "java/lang/IllegalStateException" (by decide))) h1 h2 h3 ?_
            refine W.eq (g2 := F0 mth 392 ls [.ref q9]) rfl ?_
            refine lv_astore (lv' := [(6, .ref q9), (0, .ref (dad g p0)), (1, .int p1), (2, .int p2), (3, .int p3), (4, .int p4), (5, .int p5)]) S.1 S.2.1 dL_act_392 hl (by decide) rfl (fun ls hl => ?_)
            refine lv_ldc2 (v := (-73)) S.1 S.2.1 S.2.2.2.1 (S.2.2.2.2 (.constantLong RL 108 (-73)) (List.mem_of_getElem? (i := 6) rfl)) dL_act_394 ?_
            obtain ⟨rfl, rfl⟩ := Prod.mk.inj (Option.some.inj h)
            exact dLtj S hr hlk hE hP hS (Nat.le_of_ble_eq_true rfl) (Nat.le_of_ble_eq_true rfl) dL_act_397
          · have h := d_f hk2 h
            cases h
    · subst eo
      have h := d_s2 h
      have h := d_p2 h
      refine lv_i2l S.1 S.2.1 dL_act_9 rfl ?_
      refine lv_goto (tgt := 379) S.1 S.2.1 dL_act_10 (by decide) ?_
      obtain ⟨rfl, rfl⟩ := Prod.mk.inj (Option.some.inj h)
      exact dLtj S hr hlk hE hP hS (Nat.le_of_ble_eq_true rfl) (Nat.le_of_ble_eq_true rfl) dL_act_379
theorem ynL_toss : yL_toss.cls ≠ "java/lang/invoke/MethodHandle" ∧ yL_toss.cls ≠ "java/lang/invoke/VarHandle" ∧ (parseMethodDescriptor yL_toss.desc).map (fun d => d.parameters.length) = some 6 := by decide +kernel
set_option maxRecDepth 20000 in
theorem ggL_toss_X11_caught : GoodIn wsL_toss wsX11_caught := goodIn_ca (goodIn_ca (goodIn_ca (goodIn_s _ [8, 9, 10, 11, 12, 13, 14, 15, 16, 17, 18, 19, 20, 21, 22, 7, 23, 24, 25, 26, 27, 28, 29, 30, 31, 32, 33, 34, 35, 36, 37, 38, 39, 40, 41, 42, 43, 44, 45, 46, 47, 48, 49, 50, 51, 52, 53, 54, 55, 56, 57, 58, 59, 60, 61, 62, 63, 64, 65, 66, 67, 68, 69, 70, 71, 72, 73, 74, 75, 76, 77, 78, 79, 80, 81, 82, 83, 84, 85, 86, 87, 88, 89, 90, 91, 92, 93, 94, 95, 96, 97, 98, 99, 100, 101, 102, 103, 104, 105, 106, 107, 108, 109, 110, 111, 112, 113, 114, 115, 116, 117, 118, 119, 120, 121, 122, 123, 124, 125, 126] (by decide +kernel) (by decide +kernel)) (goodIn_sub (fun _ h => List.mem_cons_of_mem _ (List.mem_append_left _ (List.mem_append_left _ (List.mem_append_right _ h)))) (by decide +kernel))) (goodIn_sub (fun _ h => List.mem_cons_of_mem _ (List.mem_append_left _ (List.mem_append_right _ h))) (by decide +kernel))) (goodIn_sub (fun _ h => List.mem_cons_of_mem _ (List.mem_append_right _ h)) (by decide +kernel))
set_option maxRecDepth 20000 in
theorem gL_toss_X11_caught : GoodIn wsL_toss (wsV RL 110 RX11 yX11_caught wsX11_caught) := goodIn_app (goodIn_of _ (by decide +kernel)) ggL_toss_X11_caught
theorem dL_toss_0 : decode cL_toss 0 = .ok (.aload_n 0, 1) := by decide +kernel
theorem dL_toss_1 : decode cL_toss 1 = .ok (.iload_n 1, 1) := by decide +kernel
theorem dL_toss_2 : decode cL_toss 2 = .ok (.iload_n 2, 1) := by decide +kernel
theorem dL_toss_3 : decode cL_toss 3 = .ok (.iload_n 3, 1) := by decide +kernel
theorem dL_toss_4 : decode cL_toss 4 = .ok (.iload 4, 2) := by decide +kernel
theorem dL_toss_6 : decode cL_toss 6 = .ok (.iload 5, 2) := by decide +kernel
theorem dL_toss_8 : decode cL_toss 8 = .ok (.invokevirtual 110, 3) := by decide +kernel
theorem dL_toss_11 : decode cL_toss 11 = .ok (.ifCond .eq 7, 3) := by decide +kernel
theorem dL_toss_14 : decode cL_toss 14 = .ok (.iconst 1, 1) := by decide +kernel
theorem dL_toss_15 : decode cL_toss 15 = .ok (.goto 4, 3) := by decide +kernel
theorem dL_toss_18 : decode cL_toss 18 = .ok (.iconst 0, 1) := by decide +kernel
theorem dL_toss_19 : decode cL_toss 19 = .ok (.ireturn, 1) := by decide +kernel
theorem dL_toss_20 : decode cL_toss 20 = .ok (.astore 6, 2) := by decide +kernel
theorem dL_toss_22 : decode cL_toss 22 = .ok (.bipush (-71), 2) := by decide +kernel
theorem dL_toss_24 : decode cL_toss 24 = .ok (.ireturn, 1) := by decide +kernel
theorem dL_toss_25 : decode cL_toss 25 = .ok (.astore 6, 2) := by decide +kernel
theorem dL_toss_27 : decode cL_toss 27 = .ok (.bipush (-72), 2) := by decide +kernel
theorem dL_toss_29 : decode cL_toss 29 = .ok (.ireturn, 1) := by decide +kernel
theorem dL_toss_30 : decode cL_toss 30 = .ok (.astore 6, 2) := by decide +kernel
theorem dL_toss_32 : decode cL_toss 32 = .ok (.bipush (-73), 2) := by decide +kernel
theorem dL_toss_34 : decode cL_toss 34 = .ok (.ireturn, 1) := by decide +kernel
def fL_toss (m : dM) (p0 : Nat) (p1 : Int32) (p2 : Int32) (p3 : Int32) (p4 : Int32) (p5 : Int32) : Option (Int32 × dM) := dg (dkg p0 12) ((fX11_caught m p0 p1 p2 p3 p4 p5).bind (fun q => dS q (fun x => dP2 x (fun kx mx => if kx = 3 then some ((-71), mx) else if kx = 1 then some ((-72), mx) else if kx = 2 then some ((-73), mx) else none)) (fun q => dP2 q (fun v4 m2 => if v4 = 0 then some (0, m2) else some (1, m2)))))
set_option maxHeartbeats 4000000 in
set_option maxRecDepth 100000 in
theorem kL_toss (l : Launch) (g : dG) (hst : l.stackTraces = false) {m : dM} {p0 : Nat} {p1 : Int32} {p2 : Int32} {p3 : Int32} {p4 : Int32} {p5 : Int32} {r0 : Int32} {m0 : dM} (h : fL_toss m p0 p1 p2 p3 p4 p5 = some (r0, m0)) : dLMet l g yL_toss wsL_toss 9 161 6 [.ref (dad g p0), .int p1, .int p2, .int p3, .int p4, .int p5] m r0 m0 := by
  refine dLof (cc := cL_toss) (maxL := 7) (ret := (some .int)) (hh := [(0, 19, 20, 98), (0, 19, 25, 102), (0, 19, 30, 106)]) _ (by decide) rfl (Nat.le_of_ble_eq_true rfl) ?_
  intro p e s mth below meth c S hr hlk htab hE H ls hP hS hl
  have S : CallFix p mth c cL_toss 7 s _ wsL_toss RL := S
  have hl : lv_has ls 7 [(0, .ref (dad g p0)), (1, .int p1), (2, .int p2), (3, .int p3), (4, .int p4), (5, .int p5)] := hl
  obtain ⟨locs, hlocs⟩ : ∃ z : List Loc, z = [] := ⟨_, rfl⟩
  rw [← hlocs] at hS ⊢
  unfold fL_toss at h
  obtain ⟨k0, h⟩ := d_g h
  have k0 := d_k k0
  refine lv_aload_n S.1 S.2.1 dL_toss_0 rfl (lv_at hl 0 rfl) ?_
  refine lv_iload_n S.1 S.2.1 dL_toss_1 rfl (lv_at hl 1 rfl) ?_
  refine lv_iload_n S.1 S.2.1 dL_toss_2 rfl (lv_at hl 2 rfl) ?_
  refine lv_iload_n S.1 S.2.1 dL_toss_3 rfl (lv_at hl 3 rfl) ?_
  refine lv_iload S.1 S.2.1 dL_toss_4 (lv_at hl 4 rfl) ?_
  refine lv_iload S.1 S.2.1 dL_toss_6 (lv_at hl 5 rfl) ?_
  obtain ⟨q3, hc1, h⟩ := d_b h
  refine dxri (o := q3) (vx_runV (As := [.int p1, .int p2, .int p3, .int p4, .int p5]) (rest := []) S (kX11_caught l g hst hc1) (cwV 5 S.2.2.2.2 gL_toss_X11_caught rfl rfl rfl ynX11_caught ⟨Nat.le_of_ble_eq_true rfl, Nat.le_of_ble_eq_true rfl⟩) (dpV hE hP hS (ci := 11) rfl (dat12 k0)) rfl rfl hl.1 rfl (lv_room (Nat.le_of_ble_eq_true rfl)) dL_toss_8 ⟨Nat.le_of_ble_eq_true rfl, Nat.le_of_ble_eq_true rfl⟩) hS (fun u q9 ce H locs eo hP hS h1 h2 h3 => ?_) (fun v4 m2 H locs eo hP hS => ?_)
  · subst eo
    have h := d_s1 h
    obtain ⟨kx, mx⟩ := u
    have h := d_p2 h
    have hP : va_P g.1 vwCl (dws g mx) H := hP
    have h3 : s.vm.findClass (dEx kx) = some ce.cls := h3
    by_cases hk0 : kx = 3
    · obtain rfl : kx = 3 := hk0
      have h := d_t (rfl : (3 : Nat) = 3) h
      refine vx_catch (E := dEx 3) (name := "java/lang/IndexOutOfBoundsException") S.2.2.2.1 [] { startPc := 0, endPc := 19, handlerPc := 20, catchType := 98 } [{ startPc := 0, endPc := 19, handlerPc := 25, catchType := 102 }, { startPc := 0, endPc := 19, handlerPc := 30, catchType := 106 }] (htab.trans rfl) (fun z hz => by simp at hz) (by decide) (by decide) (S.2.2.2.2 (.classLink RL 98 "java/lang/IndexOutOfBoundsException") (List.mem_of_getElem? (i := 1) rfl)) (va_Nw.use rfl (hE.2.2.2.2.2.2.2.2.1 "java/lang/IndexOutOfBoundsException" (by decide))) h1 h2 h3 ?_
      refine W.eq (g2 := F0 mth 20 ls [.ref q9]) rfl ?_
      refine lv_astore (lv' := [(6, .ref q9), (0, .ref (dad g p0)), (1, .int p1), (2, .int p2), (3, .int p3), (4, .int p4), (5, .int p5)]) S.1 S.2.1 dL_toss_20 hl (by decide) rfl (fun ls hl => ?_)
      refine lv_bipush (v := (-71)) S.1 S.2.1 dL_toss_22 (by decide) ?_
      obtain ⟨rfl, rfl⟩ := Prod.mk.inj (Option.some.inj h)
      exact dLti S hr hlk hE hP hS rfl (Nat.le_of_ble_eq_true rfl) (Nat.le_of_ble_eq_true rfl) dL_toss_24
    · have h := d_f hk0 h
      by_cases hk1 : kx = 1
      · obtain rfl : kx = 1 := hk1
        have h := d_t (rfl : (1 : Nat) = 1) h
        refine vx_catch (E := dEx 1) (name := "java/lang/IllegalArgumentException") S.2.2.2.1 [{ startPc := 0, endPc := 19, handlerPc := 20, catchType := 98 }] { startPc := 0, endPc := 19, handlerPc := 25, catchType := 102 } [{ startPc := 0, endPc := 19, handlerPc := 30, catchType := 106 }] (htab.trans rfl) (fun z hz => by simp only [List.mem_cons, List.not_mem_nil, or_false] at hz; subst hz; exact Or.inr ⟨by decide, "java/lang/IndexOutOfBoundsException", S.2.2.2.2 (.classLink RL 98 "java/lang/IndexOutOfBoundsException") (List.mem_of_getElem? (i := 1) rfl), hE.2.2.2.2.2.2.2.2.2 (dEx 1) (by decide) "java/lang/IndexOutOfBoundsException" (by decide) (by decide)⟩) (by decide) (by decide) (S.2.2.2.2 (.classLink RL 102 "java/lang/IllegalArgumentException") (List.mem_of_getElem? (i := 2) rfl)) (va_Nw.use rfl (hE.2.2.2.2.2.2.2.2.1 "java/lang/IllegalArgumentException" (by decide))) h1 h2 h3 ?_
        refine W.eq (g2 := F0 mth 25 ls [.ref q9]) rfl ?_
        refine lv_astore (lv' := [(6, .ref q9), (0, .ref (dad g p0)), (1, .int p1), (2, .int p2), (3, .int p3), (4, .int p4), (5, .int p5)]) S.1 S.2.1 dL_toss_25 hl (by decide) rfl (fun ls hl => ?_)
        refine lv_bipush (v := (-72)) S.1 S.2.1 dL_toss_27 (by decide) ?_
        obtain ⟨rfl, rfl⟩ := Prod.mk.inj (Option.some.inj h)
        exact dLti S hr hlk hE hP hS rfl (Nat.le_of_ble_eq_true rfl) (Nat.le_of_ble_eq_true rfl) dL_toss_29
      · have h := d_f hk1 h
        by_cases hk2 : kx = 2
        · obtain rfl : kx = 2 := hk2
          have h := d_t (rfl : (2 : Nat) = 2) h
          refine vx_catch (E := dEx 2) (name := "java/lang/IllegalStateException") S.2.2.2.1 [{ startPc := 0, endPc := 19, handlerPc := 20, catchType := 98 }, { startPc := 0, endPc := 19, handlerPc := 25, catchType := 102 }] { startPc := 0, endPc := 19, handlerPc := 30, catchType := 106 } [] (htab.trans rfl) (fun z hz => by simp only [List.mem_cons, List.not_mem_nil, or_false] at hz; rcases hz with rfl | rfl; exact Or.inr ⟨by decide, "java/lang/IndexOutOfBoundsException", S.2.2.2.2 (.classLink RL 98 "java/lang/IndexOutOfBoundsException") (List.mem_of_getElem? (i := 1) rfl), hE.2.2.2.2.2.2.2.2.2 (dEx 2) (by decide) "java/lang/IndexOutOfBoundsException" (by decide) (by decide)⟩; exact Or.inr ⟨by decide, "java/lang/IllegalArgumentException", S.2.2.2.2 (.classLink RL 102 "java/lang/IllegalArgumentException") (List.mem_of_getElem? (i := 2) rfl), hE.2.2.2.2.2.2.2.2.2 (dEx 2) (by decide) "java/lang/IllegalArgumentException" (by decide) (by decide)⟩) (by decide) (by decide) (S.2.2.2.2 (.classLink RL 106 "java/lang/IllegalStateException") (List.mem_of_getElem? (i := 3) rfl)) (va_Nw.use rfl (hE.2.2.2.2.2.2.2.2.1 "java/lang/IllegalStateException" (by decide))) h1 h2 h3 ?_
          refine W.eq (g2 := F0 mth 30 ls [.ref q9]) rfl ?_
          refine lv_astore (lv' := [(6, .ref q9), (0, .ref (dad g p0)), (1, .int p1), (2, .int p2), (3, .int p3), (4, .int p4), (5, .int p5)]) S.1 S.2.1 dL_toss_30 hl (by decide) rfl (fun ls hl => ?_)
          refine lv_bipush (v := (-73)) S.1 S.2.1 dL_toss_32 (by decide) ?_
          obtain ⟨rfl, rfl⟩ := Prod.mk.inj (Option.some.inj h)
          exact dLti S hr hlk hE hP hS rfl (Nat.le_of_ble_eq_true rfl) (Nat.le_of_ble_eq_true rfl) dL_toss_34
        · have h := d_f hk2 h
          cases h
  · subst eo
    have h := d_s2 h
    have h := d_p2 h
    refine lv_if_eq (tgt := 18) S.1 S.2.1 dL_toss_11 (by decide) (fun cq => ?_) (fun cq => ?_)
    · have h := d_t cq h
      refine lv_iconst (v := 0) S.1 S.2.1 dL_toss_18 (by decide) ?_
      obtain ⟨rfl, rfl⟩ := Prod.mk.inj (Option.some.inj h)
      exact dLti S hr hlk hE hP hS rfl (Nat.le_of_ble_eq_true rfl) (Nat.le_of_ble_eq_true rfl) dL_toss_19
    · have h := d_f cq h
      refine lv_iconst (v := 1) S.1 S.2.1 dL_toss_14 (by decide) ?_
      refine lv_goto (tgt := 19) S.1 S.2.1 dL_toss_15 (by decide) ?_
      obtain ⟨rfl, rfl⟩ := Prod.mk.inj (Option.some.inj h)
      exact dLti S hr hlk hE hP hS rfl (Nat.le_of_ble_eq_true rfl) (Nat.le_of_ble_eq_true rfl) dL_toss_19
