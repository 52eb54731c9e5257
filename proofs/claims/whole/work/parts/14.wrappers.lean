/-! the law's wrappers: they catch what the class throws -/
def dNoX (g : dG) : String → State → State → Prop := vx_X (fun (_ : Unit) => False) (fun _ _ _ => False) (dA g)
abbrev dLMet (l : Launch) (g : dG) (y : MethodName) (ws : List Cond) (f n k : Nat) (av : List Value) (m : dM) (r0 : Int32) (m0 : dM) : Prop := vx_Met l y ws (dXm f n k) (va_Pc av (dIn g m)) (va_Qi (fun (r : Int32) (u : dM) => r = r0 ∧ u = m0) (dIn g) (dA g)) (dNoX g) k (6 * k) (dA g)
theorem dLof {l : Launch} {g : dG} {y : MethodName} {ws ws' : List Cond} {f n k : Nat} {cc : ByteArray} {maxL : Nat} {ret : Option FieldType} {hh : List (Nat × Nat × Nat × Nat)} {mm m0 : dM} {r0 : Int32} (av : List Value) (hy : plainName y.cls = true) (hw : ws = Cond.codeWith y cc maxL ret hh :: ws') (hlen : (lg_sl av).length ≤ maxL)
    (body : ∀ (p : Program) (e : Env) (s : State) (m : MethodId) (below : List Frame) (meth : Method) (c : Code), CallFix p m c cc maxL s av.toArray ws y.cls → meth.sig.returnType = ret → meth.locks = false → c.exceptionTable.toList = tableOf hh → dEnv g s → ∀ (H : Heap) (ls : Array Slot), va_P g.1 vwCl (dws g mm) H → va_S (dA g) s.heap H [] → lv_has ls maxL (lv_args 0 av) →
      W p l e (headSpec ws (dXm f n k)).room s m av.toArray below meth c H [] 0 0 (vx_MQ below (va_Qi (fun (r : Int32) (u : dM) => r = r0 ∧ u = m0) (dIn g) (dA g)) (dNoX g) av.toArray s k (6 * k) (dA g)) (F0 m 0 ls [])) : dLMet l g y ws f n k av mm r0 m0 := by
  refine vx_ofWH (cc := cc) (maxL := maxL) (ret := ret) (hh := hh) hy hw ?_
  intro p e s m args below meth c s₁ B hml hv
  obtain ⟨rfl, hE, hP⟩ := hv
  have hl := lv_entry av (n := maxL) hlen
  rw [lg_entry_eq]
  have hts := atoms_spec (ws := ws) B.pre
  exact body p e s m below meth c ⟨B.exec, B.bytes, hml, findClass_of_methodNamed B.named, hts⟩ B.returns B.notSynchronized (vx_table (x := y) B (hts _ (by rw [hw]; exact List.mem_cons_self))) hE s.heap _ hP va_S.rf hl
theorem dLti {p : Program} {l : Launch} {e : Env} {R : Room} {s : State} {m : MethodId} {args : Array Value} {below : List Frame} {meth : Method} {c : Code} {H : Heap} {locs : List Loc} {cells slots mc ms : Nat} {g : dG} {m0 : dM} {cc : ByteArray} {nL pc : Nat} {ls : Array Slot} {Ts : List Cond} {own : String} {r0 : Int32} (S : CallFix p m c cc nL s args Ts own) (hr : meth.sig.returnType = some .int) (hlk : meth.locks = false) (hE : dEnv g s) (hP : va_P g.1 vwCl (dws g m0) H) (hS : va_S (dA g) s.heap H locs) (hc : cells ≤ mc) (hs : slots ≤ ms) (hdg : decode cc pc = .ok (.ireturn, 1)) :
    W p l e R s m args below meth c H locs cells slots (vx_MQ below (va_Qi (fun (r : Int32) (u : dM) => r = r0 ∧ u = m0) (dIn g) (dA g)) (dNoX g) args s mc ms (dA g)) (F0 m pc ls [.int r0]) :=
  W.widen hc hs (vx_ret (W.zret (v := r0) S.1 S.2.1 hr rfl (fun t ht hW => ⟨⟨r0, m0, rfl, ⟨rfl, rfl⟩, hE.to hW (by rw [ht]; exact hS.1) (by rw [ht]; exact hS.2.1), by rw [ht]; exact hP⟩, hS.F ht⟩) hS.2.2 hdg hlk))
set_option maxRecDepth 20000 in
theorem ggL_band_X11_band : GoodIn wsL_band wsX11_band := goodIn_ca (goodIn_ca (goodIn_r _ [7, 8, 9, 10, 11, 12, 13, 6, 14, 15, 16, 17, 18, 19, 20, 21, 22, 23, 24, 25, 26, 27, 28, 29, 30, 31, 32, 33, 34, 35, 36, 37, 38, 39, 40, 41, 42, 43, 44, 45, 46, 47, 48, 49, 50, 51, 52, 53, 54, 55] (by decide +kernel) (by decide +kernel)) (goodIn_sub (fun _ h => List.mem_cons_of_mem _ (List.mem_append_left _ (List.mem_append_right _ h))) (by decide +kernel))) (goodIn_sub (fun _ h => List.mem_cons_of_mem _ (List.mem_append_right _ h)) (by decide +kernel))
set_option maxRecDepth 20000 in
theorem gL_band_X11_band : GoodIn wsL_band (wsV RL 7 RX11 yX11_band wsX11_band) := goodIn_app (goodIn_of _ (by decide +kernel)) ggL_band_X11_band
theorem dL_band_0 : decode cL_band 0 = .ok (.aload_n 0, 1) := by decide +kernel
theorem dL_band_1 : decode cL_band 1 = .ok (.iload_n 1, 1) := by decide +kernel
theorem dL_band_2 : decode cL_band 2 = .ok (.invokevirtual 7, 3) := by decide +kernel
theorem dL_band_5 : decode cL_band 5 = .ok (.goto 9, 3) := by decide +kernel
theorem dL_band_8 : decode cL_band 8 = .ok (.astore_n 2, 1) := by decide +kernel
theorem dL_band_9 : decode cL_band 9 = .ok (.iconst 1, 1) := by decide +kernel
theorem dL_band_10 : decode cL_band 10 = .ok (.ireturn, 1) := by decide +kernel
theorem dL_band_11 : decode cL_band 11 = .ok (.astore_n 2, 1) := by decide +kernel
theorem dL_band_12 : decode cL_band 12 = .ok (.iconst 2, 1) := by decide +kernel
theorem dL_band_13 : decode cL_band 13 = .ok (.ireturn, 1) := by decide +kernel
theorem dL_band_14 : decode cL_band 14 = .ok (.iconst 0, 1) := by decide +kernel
theorem dL_band_15 : decode cL_band 15 = .ok (.ireturn, 1) := by decide +kernel
def fL_band (m : dM) (p0 : Nat) (p1 : Int32) : Option (Int32 × dM) := dg (dkg p0 12) ((fX11_band m p0 p1).bind (fun q => dS q (fun x => dP2 x (fun kx mx => if kx = 1 then some (1, mx) else if kx = 2 then some (2, mx) else none)) (fun m2 => some (0, m2))))
set_option maxHeartbeats 4000000 in
set_option maxRecDepth 100000 in
theorem kL_band (l : Launch) (g : dG) (hst : l.stackTraces = false) {m : dM} {p0 : Nat} {p1 : Int32} {r0 : Int32} {m0 : dM} (h : fL_band m p0 p1 = some (r0, m0)) : dLMet l g yL_band wsL_band 8 133 2 [.ref (dad g p0), .int p1] m r0 m0 := by
  refine dLof (cc := cL_band) (maxL := 3) (ret := (some .int)) (hh := [(0, 5, 8, 13), (0, 5, 11, 15)]) _ (by decide) rfl (Nat.le_of_ble_eq_true rfl) ?_
  intro p e s mth below meth c S hr hlk htab hE H ls hP hS hl
  have S : CallFix p mth c cL_band 3 s _ wsL_band RL := S
  have hl : lv_has ls 3 [(0, .ref (dad g p0)), (1, .int p1)] := hl
  obtain ⟨locs, hlocs⟩ : ∃ z : List Loc, z = [] := ⟨_, rfl⟩
  rw [← hlocs] at hS ⊢
  unfold fL_band at h
  obtain ⟨k0, h⟩ := d_g h
  have k0 := d_k k0
  refine lv_aload_n S.1 S.2.1 dL_band_0 rfl (lv_at hl 0 rfl) ?_
  refine lv_iload_n S.1 S.2.1 dL_band_1 rfl (lv_at hl 1 rfl) ?_
  obtain ⟨q3, hc1, h⟩ := d_b h
  refine dxrv (o := q3) (vx_runV (As := [.int p1]) (rest := []) S (kX11_band l g hst hc1) (cwV 1 S.2.2.2.2 gL_band_X11_band rfl rfl rfl ynX11_band ⟨Nat.le_of_ble_eq_true rfl, Nat.le_of_ble_eq_true rfl⟩) (dpV hE hP hS (ci := 11) rfl (dat12 k0)) rfl rfl hl.1 rfl (lv_room (Nat.le_of_ble_eq_true rfl)) dL_band_2 ⟨Nat.le_of_ble_eq_true rfl, Nat.le_of_ble_eq_true rfl⟩) hS (fun u q9 ce H locs eo hP hS h1 h2 h3 => ?_) (fun m2 H locs eo hP hS => ?_)
  · subst eo
    have h := d_s1 h
    obtain ⟨kx, mx⟩ := u
    have h := d_p2 h
    have hP : va_P g.1 vwCl (dws g mx) H := hP
    have h3 : s.vm.findClass (dEx kx) = some ce.cls := h3
    by_cases hk0 : kx = 1
    · obtain rfl : kx = 1 := hk0
      have h := d_t (rfl : (1 : Nat) = 1) h
      refine vx_catch (E := dEx 1) (name := "java/lang/IllegalArgumentException") S.2.2.2.1 [] { startPc := 0, endPc := 5, handlerPc := 8, catchType := 13 } [{ startPc := 0, endPc := 5, handlerPc := 11, catchType := 15 }] (htab.trans rfl) (fun z hz => by simp at hz) (by decide) (by decide) (S.2.2.2.2 (.classLink RL 13 "java/lang/IllegalArgumentException") (List.mem_of_getElem? (i := 1) rfl)) (va_Nw.use rfl (hE.2.2.2.2.2.2.2.2.1 "java/lang/IllegalArgumentException" (by decide))) h1 h2 h3 ?_
      refine W.eq (g2 := F0 mth 8 ls [.ref q9]) rfl ?_
      refine lv_astore_n (lv' := [(2, .ref q9), (0, .ref (dad g p0)), (1, .int p1)]) S.1 S.2.1 dL_band_8 rfl hl (by decide) rfl (fun ls hl => ?_)
      refine lv_iconst (v := 1) S.1 S.2.1 dL_band_9 (by decide) ?_
      obtain ⟨rfl, rfl⟩ := Prod.mk.inj (Option.some.inj h)
      exact dLti S hr hlk hE hP hS (Nat.le_of_ble_eq_true rfl) (Nat.le_of_ble_eq_true rfl) dL_band_10
    · have h := d_f hk0 h
      by_cases hk1 : kx = 2
      · obtain rfl : kx = 2 := hk1
        have h := d_t (rfl : (2 : Nat) = 2) h
        refine vx_catch (E := dEx 2) (name := "java/lang/IllegalStateException") S.2.2.2.1 [{ startPc := 0, endPc := 5, handlerPc := 8, catchType := 13 }] { startPc := 0, endPc := 5, handlerPc := 11, catchType := 15 } [] (htab.trans rfl) (fun z hz => by simp only [List.mem_cons, List.not_mem_nil, or_false] at hz; subst hz; exact Or.inr ⟨by decide, "java/lang/IllegalArgumentException", S.2.2.2.2 (.classLink RL 13 "java/lang/IllegalArgumentException") (List.mem_of_getElem? (i := 1) rfl), hE.2.2.2.2.2.2.2.2.2 (dEx 2) (by decide) "java/lang/IllegalArgumentException" (by decide) (by decide)⟩) (by decide) (by decide) (S.2.2.2.2 (.classLink RL 15 "java/lang/IllegalStateException") (List.mem_of_getElem? (i := 2) rfl)) (va_Nw.use rfl (hE.2.2.2.2.2.2.2.2.1 "java/lang/IllegalStateException" (by decide))) h1 h2 h3 ?_
        refine W.eq (g2 := F0 mth 11 ls [.ref q9]) rfl ?_
        refine lv_astore_n (lv' := [(2, .ref q9), (0, .ref (dad g p0)), (1, .int p1)]) S.1 S.2.1 dL_band_11 rfl hl (by decide) rfl (fun ls hl => ?_)
        refine lv_iconst (v := 2) S.1 S.2.1 dL_band_12 (by decide) ?_
        obtain ⟨rfl, rfl⟩ := Prod.mk.inj (Option.some.inj h)
        exact dLti S hr hlk hE hP hS (Nat.le_of_ble_eq_true rfl) (Nat.le_of_ble_eq_true rfl) dL_band_13
      · have h := d_f hk1 h
        cases h
  · subst eo
    have h := d_s2 h
    refine lv_goto (tgt := 14) S.1 S.2.1 dL_band_5 (by decide) ?_
    refine lv_iconst (v := 0) S.1 S.2.1 dL_band_14 (by decide) ?_
    obtain ⟨rfl, rfl⟩ := Prod.mk.inj (Option.some.inj h)
    exact dLti S hr hlk hE hP hS (Nat.le_of_ble_eq_true rfl) (Nat.le_of_ble_eq_true rfl) dL_band_15
set_option maxRecDepth 20000 in
theorem ggL_legs_X11_legs : GoodIn wsL_legs wsX11_legs := goodIn_ca (goodIn_ca (goodIn_r _ [7, 8, 9, 10, 11, 6, 12, 13, 14, 15, 16, 17, 18, 19, 20, 21, 22, 23, 24, 25, 26, 27, 28, 29, 30, 31, 32, 33, 34, 35, 36, 37, 38, 39, 40, 41, 42, 43, 44, 45, 46, 47, 48, 49, 50, 51, 52, 53, 54, 55] (by decide +kernel) (by decide +kernel)) (goodIn_sub (fun _ h => List.mem_cons_of_mem _ (List.mem_append_left _ (List.mem_append_right _ h))) (by decide +kernel))) (goodIn_sub (fun _ h => List.mem_cons_of_mem _ (List.mem_append_right _ h)) (by decide +kernel))
set_option maxRecDepth 20000 in
theorem gL_legs_X11_legs : GoodIn wsL_legs (wsV RL 17 RX11 yX11_legs wsX11_legs) := goodIn_app (goodIn_of _ (by decide +kernel)) ggL_legs_X11_legs
theorem dL_legs_0 : decode cL_legs 0 = .ok (.aload_n 3, 1) := by decide +kernel
theorem dL_legs_1 : decode cL_legs 1 = .ok (.iconst 0, 1) := by decide +kernel
theorem dL_legs_2 : decode cL_legs 2 = .ok (.aload_n 0, 1) := by decide +kernel
theorem dL_legs_3 : decode cL_legs 3 = .ok (.iload_n 1, 1) := by decide +kernel
theorem dL_legs_4 : decode cL_legs 4 = .ok (.iload_n 2, 1) := by decide +kernel
theorem dL_legs_5 : decode cL_legs 5 = .ok (.invokevirtual 17, 3) := by decide +kernel
theorem dL_legs_8 : decode cL_legs 8 = .ok (.i2l, 1) := by decide +kernel
theorem dL_legs_9 : decode cL_legs 9 = .ok (.lastore, 1) := by decide +kernel
theorem dL_legs_10 : decode cL_legs 10 = .ok (.goto 11, 3) := by decide +kernel
theorem dL_legs_13 : decode cL_legs 13 = .ok (.astore 4, 2) := by decide +kernel
theorem dL_legs_15 : decode cL_legs 15 = .ok (.iconst 1, 1) := by decide +kernel
theorem dL_legs_16 : decode cL_legs 16 = .ok (.ireturn, 1) := by decide +kernel
theorem dL_legs_17 : decode cL_legs 17 = .ok (.astore 4, 2) := by decide +kernel
theorem dL_legs_19 : decode cL_legs 19 = .ok (.iconst 2, 1) := by decide +kernel
theorem dL_legs_20 : decode cL_legs 20 = .ok (.ireturn, 1) := by decide +kernel
theorem dL_legs_21 : decode cL_legs 21 = .ok (.iconst 0, 1) := by decide +kernel
theorem dL_legs_22 : decode cL_legs 22 = .ok (.ireturn, 1) := by decide +kernel
def fL_legs (m : dM) (p0 : Nat) (p1 : Int32) (p2 : Int32) (p3 : Nat) : Option (Int32 × dM) := dg (dkg p0 12) (dg (dkg p3 22) ((fX11_legs m p0 p1 p2).bind (fun q => dS q (fun x => dP2 x (fun kx mx => if kx = 3 then some (1, mx) else if kx = 1 then some (2, mx) else none)) (fun q => dP2 q (fun v4 m2 => dg (dIx 0 (dL p3)) (dlet (d2 m2 p3 (Int32.toNatClampNeg (0)) (Int32.toInt64 v4)) (fun m5 => some (0, m5))))))))
set_option maxHeartbeats 4000000 in
set_option maxRecDepth 100000 in
theorem kL_legs (l : Launch) (g : dG) (hst : l.stackTraces = false) {m : dM} {p0 : Nat} {p1 : Int32} {p2 : Int32} {p3 : Nat} {r0 : Int32} {m0 : dM} (h : fL_legs m p0 p1 p2 p3 = some (r0, m0)) : dLMet l g yL_legs wsL_legs 9 155 2 [.ref (dad g p0), .int p1, .int p2, .ref (dad g p3)] m r0 m0 := by
  refine dLof (cc := cL_legs) (maxL := 5) (ret := (some .int)) (hh := [(0, 10, 13, 21), (0, 10, 17, 13)]) _ (by decide) rfl (Nat.le_of_ble_eq_true rfl) ?_
  intro p e s mth below meth c S hr hlk htab hE H ls hP hS hl
  have S : CallFix p mth c cL_legs 5 s _ wsL_legs RL := S
  have hl : lv_has ls 5 [(0, .ref (dad g p0)), (1, .int p1), (2, .int p2), (3, .ref (dad g p3))] := hl
  obtain ⟨locs, hlocs⟩ : ∃ z : List Loc, z = [] := ⟨_, rfl⟩
  rw [← hlocs] at hS ⊢
  unfold fL_legs at h
  obtain ⟨k0, h⟩ := d_g h
  have k0 := d_k k0
  obtain ⟨k3, h⟩ := d_g h
  have k3 := d_k k3
  refine lv_aload_n S.1 S.2.1 dL_legs_0 rfl (lv_at hl 3 rfl) ?_
  refine lv_iconst (v := 0) S.1 S.2.1 dL_legs_1 (by decide) ?_
  refine lv_aload_n S.1 S.2.1 dL_legs_2 rfl (lv_at hl 0 rfl) ?_
  refine lv_iload_n S.1 S.2.1 dL_legs_3 rfl (lv_at hl 1 rfl) ?_
  refine lv_iload_n S.1 S.2.1 dL_legs_4 rfl (lv_at hl 2 rfl) ?_
  obtain ⟨q3, hc1, h⟩ := d_b h
  refine dxri (o := q3) (vx_runV (As := [.int p1, .int p2]) (rest := [.int 0, .ref (dad g p3)]) S (kX11_legs l g hst hc1) (cwV 2 S.2.2.2.2 gL_legs_X11_legs rfl rfl rfl ynX11_legs ⟨Nat.le_of_ble_eq_true rfl, Nat.le_of_ble_eq_true rfl⟩) (dpV hE hP hS (ci := 11) rfl (dat12 k0)) rfl rfl hl.1 rfl (lv_room (Nat.le_of_ble_eq_true rfl)) dL_legs_5 ⟨Nat.le_of_ble_eq_true rfl, Nat.le_of_ble_eq_true rfl⟩) hS (fun u q9 ce H locs eo hP hS h1 h2 h3 => ?_) (fun v4 m2 H locs eo hP hS => ?_)
  · subst eo
    have h := d_s1 h
    obtain ⟨kx, mx⟩ := u
    have h := d_p2 h
    have hP : va_P g.1 vwCl (dws g mx) H := hP
    have h3 : s.vm.findClass (dEx kx) = some ce.cls := h3
    by_cases hk0 : kx = 3
    · obtain rfl : kx = 3 := hk0
      have h := d_t (rfl : (3 : Nat) = 3) h
      refine vx_catch (E := dEx 3) (name := "java/lang/IndexOutOfBoundsException") S.2.2.2.1 [] { startPc := 0, endPc := 10, handlerPc := 13, catchType := 21 } [{ startPc := 0, endPc := 10, handlerPc := 17, catchType := 13 }] (htab.trans rfl) (fun z hz => by simp at hz) (by decide) (by decide) (S.2.2.2.2 (.classLink RL 21 "java/lang/IndexOutOfBoundsException") (List.mem_of_getElem? (i := 1) rfl)) (va_Nw.use rfl (hE.2.2.2.2.2.2.2.2.1 "java/lang/IndexOutOfBoundsException" (by decide))) h1 h2 h3 ?_
      refine W.eq (g2 := F0 mth 13 ls [.ref q9]) rfl ?_
      refine lv_astore (lv' := [(4, .ref q9), (0, .ref (dad g p0)), (1, .int p1), (2, .int p2), (3, .ref (dad g p3))]) S.1 S.2.1 dL_legs_13 hl (by decide) rfl (fun ls hl => ?_)
      refine lv_iconst (v := 1) S.1 S.2.1 dL_legs_15 (by decide) ?_
      obtain ⟨rfl, rfl⟩ := Prod.mk.inj (Option.some.inj h)
      exact dLti S hr hlk hE hP hS (Nat.le_of_ble_eq_true rfl) (Nat.le_of_ble_eq_true rfl) dL_legs_16
    · have h := d_f hk0 h
      by_cases hk1 : kx = 1
      · obtain rfl : kx = 1 := hk1
        have h := d_t (rfl : (1 : Nat) = 1) h
        refine vx_catch (E := dEx 1) (name := "java/lang/IllegalArgumentException") S.2.2.2.1 [{ startPc := 0, endPc := 10, handlerPc := 13, catchType := 21 }] { startPc := 0, endPc := 10, handlerPc := 17, catchType := 13 } [] (htab.trans rfl) (fun z hz => by simp only [List.mem_cons, List.not_mem_nil, or_false] at hz; subst hz; exact Or.inr ⟨by decide, "java/lang/IndexOutOfBoundsException", S.2.2.2.2 (.classLink RL 21 "java/lang/IndexOutOfBoundsException") (List.mem_of_getElem? (i := 1) rfl), hE.2.2.2.2.2.2.2.2.2 (dEx 1) (by decide) "java/lang/IndexOutOfBoundsException" (by decide) (by decide)⟩) (by decide) (by decide) (S.2.2.2.2 (.classLink RL 13 "java/lang/IllegalArgumentException") (List.mem_of_getElem? (i := 2) rfl)) (va_Nw.use rfl (hE.2.2.2.2.2.2.2.2.1 "java/lang/IllegalArgumentException" (by decide))) h1 h2 h3 ?_
        refine W.eq (g2 := F0 mth 17 ls [.ref q9]) rfl ?_
        refine lv_astore (lv' := [(4, .ref q9), (0, .ref (dad g p0)), (1, .int p1), (2, .int p2), (3, .ref (dad g p3))]) S.1 S.2.1 dL_legs_17 hl (by decide) rfl (fun ls hl => ?_)
        refine lv_iconst (v := 2) S.1 S.2.1 dL_legs_19 (by decide) ?_
        obtain ⟨rfl, rfl⟩ := Prod.mk.inj (Option.some.inj h)
        exact dLti S hr hlk hE hP hS (Nat.le_of_ble_eq_true rfl) (Nat.le_of_ble_eq_true rfl) dL_legs_20
      · have h := d_f hk1 h
        cases h
  · subst eo
    have h := d_s2 h
    have h := d_p2 h
    refine lv_i2l S.1 S.2.1 dL_legs_8 rfl ?_
    obtain ⟨hi, h⟩ := d_g h
    refine d_last S hE hP hS k3 hi dL_legs_9 (fun H locs hP hS => ?_)
    obtain ⟨m5, em5⟩ : ∃ z : dM, z = d2 m2 p3 (Int32.toNatClampNeg (0)) (Int32.toInt64 v4) := ⟨_, rfl⟩
    have h := d_let em5 h
    rw [← em5] at hP
    refine lv_goto (tgt := 21) S.1 S.2.1 dL_legs_10 (by decide) ?_
    refine lv_iconst (v := 0) S.1 S.2.1 dL_legs_21 (by decide) ?_
    obtain ⟨rfl, rfl⟩ := Prod.mk.inj (Option.some.inj h)
    exact dLti S hr hlk hE hP hS (Nat.le_of_ble_eq_true rfl) (Nat.le_of_ble_eq_true rfl) dL_legs_22
set_option maxRecDepth 20000 in
theorem ggL_ill_X11_ill : GoodIn wsL_ill wsX11_ill := goodIn_ca (goodIn_r _ [6, 7, 8, 9, 10, 5, 11, 12, 13, 14, 15, 16, 17, 18, 19, 20, 21, 22, 23, 24, 25, 26, 27, 28, 29, 30, 31, 32, 33, 34, 35, 36, 37, 38, 39, 40, 41, 42, 43, 44, 45, 46, 47, 48, 49, 50, 51] (by decide +kernel) (by decide +kernel)) (goodIn_sub (fun _ h => List.mem_cons_of_mem _ (List.mem_append_right _ h)) (by decide +kernel))
set_option maxRecDepth 20000 in
theorem gL_ill_X11_ill : GoodIn wsL_ill (wsV RL 23 RX11 yX11_ill wsX11_ill) := goodIn_app (goodIn_of _ (by decide +kernel)) ggL_ill_X11_ill
theorem dL_ill_0 : decode cL_ill 0 = .ok (.aload_n 3, 1) := by decide +kernel
theorem dL_ill_1 : decode cL_ill 1 = .ok (.iconst 0, 1) := by decide +kernel
theorem dL_ill_2 : decode cL_ill 2 = .ok (.aload_n 0, 1) := by decide +kernel
theorem dL_ill_3 : decode cL_ill 3 = .ok (.iload_n 1, 1) := by decide +kernel
theorem dL_ill_4 : decode cL_ill 4 = .ok (.iload_n 2, 1) := by decide +kernel
theorem dL_ill_5 : decode cL_ill 5 = .ok (.invokevirtual 23, 3) := by decide +kernel
theorem dL_ill_8 : decode cL_ill 8 = .ok (.ifCond .eq 7, 3) := by decide +kernel
theorem dL_ill_11 : decode cL_ill 11 = .ok (.lconst 1, 1) := by decide +kernel
theorem dL_ill_12 : decode cL_ill 12 = .ok (.goto 4, 3) := by decide +kernel
theorem dL_ill_15 : decode cL_ill 15 = .ok (.lconst 0, 1) := by decide +kernel
theorem dL_ill_16 : decode cL_ill 16 = .ok (.lastore, 1) := by decide +kernel
theorem dL_ill_17 : decode cL_ill 17 = .ok (.goto 7, 3) := by decide +kernel
theorem dL_ill_20 : decode cL_ill 20 = .ok (.astore 4, 2) := by decide +kernel
theorem dL_ill_22 : decode cL_ill 22 = .ok (.iconst 1, 1) := by decide +kernel
theorem dL_ill_23 : decode cL_ill 23 = .ok (.ireturn, 1) := by decide +kernel
theorem dL_ill_24 : decode cL_ill 24 = .ok (.iconst 0, 1) := by decide +kernel
theorem dL_ill_25 : decode cL_ill 25 = .ok (.ireturn, 1) := by decide +kernel
def fL_ill (m : dM) (p0 : Nat) (p1 : Int32) (p2 : Int32) (p3 : Nat) : Option (Int32 × dM) := dg (dkg p0 12) (dg (dkg p3 22) ((fX11_ill m p0 p1 p2).bind (fun q => dS q (fun x => dP2 x (fun kx mx => if kx = 3 then some (1, mx) else none)) (fun q => dP2 q (fun v4 m2 => if v4 = 0 then dg (dIx 0 (dL p3)) (dlet (d2 m2 p3 (Int32.toNatClampNeg (0)) 0) (fun m5 => some (0, m5))) else dg (dIx 0 (dL p3)) (dlet (d2 m2 p3 (Int32.toNatClampNeg (0)) 1) (fun m6 => some (0, m6))))))))
set_option maxHeartbeats 4000000 in
set_option maxRecDepth 100000 in
theorem kL_ill (l : Launch) (g : dG) (hst : l.stackTraces = false) {m : dM} {p0 : Nat} {p1 : Int32} {p2 : Int32} {p3 : Nat} {r0 : Int32} {m0 : dM} (h : fL_ill m p0 p1 p2 p3 = some (r0, m0)) : dLMet l g yL_ill wsL_ill 9 154 1 [.ref (dad g p0), .int p1, .int p2, .ref (dad g p3)] m r0 m0 := by
  refine dLof (cc := cL_ill) (maxL := 5) (ret := (some .int)) (hh := [(0, 17, 20, 21)]) _ (by decide) rfl (Nat.le_of_ble_eq_true rfl) ?_
  intro p e s mth below meth c S hr hlk htab hE H ls hP hS hl
  have S : CallFix p mth c cL_ill 5 s _ wsL_ill RL := S
  have hl : lv_has ls 5 [(0, .ref (dad g p0)), (1, .int p1), (2, .int p2), (3, .ref (dad g p3))] := hl
  obtain ⟨locs, hlocs⟩ : ∃ z : List Loc, z = [] := ⟨_, rfl⟩
  rw [← hlocs] at hS ⊢
  unfold fL_ill at h
  obtain ⟨k0, h⟩ := d_g h
  have k0 := d_k k0
  obtain ⟨k3, h⟩ := d_g h
  have k3 := d_k k3
  refine lv_aload_n S.1 S.2.1 dL_ill_0 rfl (lv_at hl 3 rfl) ?_
  refine lv_iconst (v := 0) S.1 S.2.1 dL_ill_1 (by decide) ?_
  refine lv_aload_n S.1 S.2.1 dL_ill_2 rfl (lv_at hl 0 rfl) ?_
  refine lv_iload_n S.1 S.2.1 dL_ill_3 rfl (lv_at hl 1 rfl) ?_
  refine lv_iload_n S.1 S.2.1 dL_ill_4 rfl (lv_at hl 2 rfl) ?_
  obtain ⟨q3, hc1, h⟩ := d_b h
  refine dxri (o := q3) (vx_runV (As := [.int p1, .int p2]) (rest := [.int 0, .ref (dad g p3)]) S (kX11_ill l g hst hc1) (cwV 2 S.2.2.2.2 gL_ill_X11_ill rfl rfl rfl ynX11_ill ⟨Nat.le_of_ble_eq_true rfl, Nat.le_of_ble_eq_true rfl⟩) (dpV hE hP hS (ci := 11) rfl (dat12 k0)) rfl rfl hl.1 rfl (lv_room (Nat.le_of_ble_eq_true rfl)) dL_ill_5 ⟨Nat.le_of_ble_eq_true rfl, Nat.le_of_ble_eq_true rfl⟩) hS (fun u q9 ce H locs eo hP hS h1 h2 h3 => ?_) (fun v4 m2 H locs eo hP hS => ?_)
  · subst eo
    have h := d_s1 h
    obtain ⟨kx, mx⟩ := u
    have h := d_p2 h
    have hP : va_P g.1 vwCl (dws g mx) H := hP
    have h3 : s.vm.findClass (dEx kx) = some ce.cls := h3
    by_cases hk0 : kx = 3
    · obtain rfl : kx = 3 := hk0
      have h := d_t (rfl : (3 : Nat) = 3) h
      refine vx_catch (E := dEx 3) (name := "java/lang/IndexOutOfBoundsException") S.2.2.2.1 [] { startPc := 0, endPc := 17, handlerPc := 20, catchType := 21 } [] (htab.trans rfl) (fun z hz => by simp at hz) (by decide) (by decide) (S.2.2.2.2 (.classLink RL 21 "java/lang/IndexOutOfBoundsException") (List.mem_of_getElem? (i := 1) rfl)) (va_Nw.use rfl (hE.2.2.2.2.2.2.2.2.1 "java/lang/IndexOutOfBoundsException" (by decide))) h1 h2 h3 ?_
      refine W.eq (g2 := F0 mth 20 ls [.ref q9]) rfl ?_
      refine lv_astore (lv' := [(4, .ref q9), (0, .ref (dad g p0)), (1, .int p1), (2, .int p2), (3, .ref (dad g p3))]) S.1 S.2.1 dL_ill_20 hl (by decide) rfl (fun ls hl => ?_)
      refine lv_iconst (v := 1) S.1 S.2.1 dL_ill_22 (by decide) ?_
      obtain ⟨rfl, rfl⟩ := Prod.mk.inj (Option.some.inj h)
      exact dLti S hr hlk hE hP hS (Nat.le_of_ble_eq_true rfl) (Nat.le_of_ble_eq_true rfl) dL_ill_23
    · have h := d_f hk0 h
      cases h
  · subst eo
    have h := d_s2 h
    have h := d_p2 h
    refine lv_if_eq (tgt := 15) S.1 S.2.1 dL_ill_8 (by decide) (fun cq => ?_) (fun cq => ?_)
    · have h := d_t cq h
      refine lv_lconst (v := 0) S.1 S.2.1 dL_ill_15 (by decide) ?_
      obtain ⟨hi, h⟩ := d_g h
      refine d_last S hE hP hS k3 hi dL_ill_16 (fun H locs hP hS => ?_)
      obtain ⟨m5, em5⟩ : ∃ z : dM, z = d2 m2 p3 (Int32.toNatClampNeg (0)) 0 := ⟨_, rfl⟩
      have h := d_let em5 h
      rw [← em5] at hP
      refine lv_goto (tgt := 24) S.1 S.2.1 dL_ill_17 (by decide) ?_
      refine lv_iconst (v := 0) S.1 S.2.1 dL_ill_24 (by decide) ?_
      obtain ⟨rfl, rfl⟩ := Prod.mk.inj (Option.some.inj h)
      exact dLti S hr hlk hE hP hS (Nat.le_of_ble_eq_true rfl) (Nat.le_of_ble_eq_true rfl) dL_ill_25
    · have h := d_f cq h
      refine lv_lconst (v := 1) S.1 S.2.1 dL_ill_11 (by decide) ?_
      refine lv_goto (tgt := 16) S.1 S.2.1 dL_ill_12 (by decide) ?_
      obtain ⟨hi, h⟩ := d_g h
      refine d_last S hE hP hS k3 hi dL_ill_16 (fun H locs hP hS => ?_)
      obtain ⟨m6, em6⟩ : ∃ z : dM, z = d2 m2 p3 (Int32.toNatClampNeg (0)) 1 := ⟨_, rfl⟩
      have h := d_let em6 h
      rw [← em6] at hP
      refine lv_goto (tgt := 24) S.1 S.2.1 dL_ill_17 (by decide) ?_
      refine lv_iconst (v := 0) S.1 S.2.1 dL_ill_24 (by decide) ?_
      obtain ⟨rfl, rfl⟩ := Prod.mk.inj (Option.some.inj h)
      exact dLti S hr hlk hE hP hS (Nat.le_of_ble_eq_true rfl) (Nat.le_of_ble_eq_true rfl) dL_ill_25
set_option maxRecDepth 20000 in
theorem ggL_alternate_X11_alternate : GoodIn wsL_alternate wsX11_alternate := goodIn_ca (goodIn_r _ [6, 7, 8, 9, 5, 10, 11, 12, 13, 14, 15, 16, 17, 18, 19, 20, 21, 22, 23, 24, 25, 26, 27, 28, 29, 30, 31, 32, 33, 34, 35, 36, 37, 38, 39, 40, 41, 42, 43, 44] (by decide +kernel) (by decide +kernel)) (goodIn_sub (fun _ h => List.mem_cons_of_mem _ (List.mem_append_right _ h)) (by decide +kernel))
set_option maxRecDepth 20000 in
theorem gL_alternate_X11_alternate : GoodIn wsL_alternate (wsV RL 27 RX11 yX11_alternate wsX11_alternate) := goodIn_app (goodIn_of _ (by decide +kernel)) ggL_alternate_X11_alternate
theorem dL_alternate_0 : decode cL_alternate 0 = .ok (.aload_n 0, 1) := by decide +kernel
theorem dL_alternate_1 : decode cL_alternate 1 = .ok (.iload_n 1, 1) := by decide +kernel
theorem dL_alternate_2 : decode cL_alternate 2 = .ok (.iload_n 2, 1) := by decide +kernel
theorem dL_alternate_3 : decode cL_alternate 3 = .ok (.iload_n 3, 1) := by decide +kernel
theorem dL_alternate_4 : decode cL_alternate 4 = .ok (.invokevirtual 27, 3) := by decide +kernel
theorem dL_alternate_7 : decode cL_alternate 7 = .ok (.goto 7, 3) := by decide +kernel
theorem dL_alternate_10 : decode cL_alternate 10 = .ok (.astore 4, 2) := by decide +kernel
theorem dL_alternate_12 : decode cL_alternate 12 = .ok (.iconst 1, 1) := by decide +kernel
theorem dL_alternate_13 : decode cL_alternate 13 = .ok (.ireturn, 1) := by decide +kernel
theorem dL_alternate_14 : decode cL_alternate 14 = .ok (.iconst 0, 1) := by decide +kernel
theorem dL_alternate_15 : decode cL_alternate 15 = .ok (.ireturn, 1) := by decide +kernel
def fL_alternate (m : dM) (p0 : Nat) (p1 : Int32) (p2 : Int32) (p3 : Int32) : Option (Int32 × dM) := dg (dkg p0 12) ((fX11_alternate m p0 p1 p2 p3).bind (fun q => dS q (fun x => dP2 x (fun kx mx => if kx = 3 then some (1, mx) else none)) (fun m2 => some (0, m2))))
set_option maxHeartbeats 4000000 in
set_option maxRecDepth 100000 in
theorem kL_alternate (l : Launch) (g : dG) (hst : l.stackTraces = false) {m : dM} {p0 : Nat} {p1 : Int32} {p2 : Int32} {p3 : Int32} {r0 : Int32} {m0 : dM} (h : fL_alternate m p0 p1 p2 p3 = some (r0, m0)) : dLMet l g yL_alternate wsL_alternate 9 155 2 [.ref (dad g p0), .int p1, .int p2, .int p3] m r0 m0 := by
  refine dLof (cc := cL_alternate) (maxL := 5) (ret := (some .int)) (hh := [(0, 7, 10, 21)]) _ (by decide) rfl (Nat.le_of_ble_eq_true rfl) ?_
  intro p e s mth below meth c S hr hlk htab hE H ls hP hS hl
  have S : CallFix p mth c cL_alternate 5 s _ wsL_alternate RL := S
  have hl : lv_has ls 5 [(0, .ref (dad g p0)), (1, .int p1), (2, .int p2), (3, .int p3)] := hl
  obtain ⟨locs, hlocs⟩ : ∃ z : List Loc, z = [] := ⟨_, rfl⟩
  rw [← hlocs] at hS ⊢
  unfold fL_alternate at h
  obtain ⟨k0, h⟩ := d_g h
  have k0 := d_k k0
  refine lv_aload_n S.1 S.2.1 dL_alternate_0 rfl (lv_at hl 0 rfl) ?_
  refine lv_iload_n S.1 S.2.1 dL_alternate_1 rfl (lv_at hl 1 rfl) ?_
  refine lv_iload_n S.1 S.2.1 dL_alternate_2 rfl (lv_at hl 2 rfl) ?_
  refine lv_iload_n S.1 S.2.1 dL_alternate_3 rfl (lv_at hl 3 rfl) ?_
  obtain ⟨q3, hc1, h⟩ := d_b h
  refine dxrv (o := q3) (vx_runV (As := [.int p1, .int p2, .int p3]) (rest := []) S (kX11_alternate l g hst hc1) (cwV 3 S.2.2.2.2 gL_alternate_X11_alternate rfl rfl rfl ynX11_alternate ⟨Nat.le_of_ble_eq_true rfl, Nat.le_of_ble_eq_true rfl⟩) (dpV hE hP hS (ci := 11) rfl (dat12 k0)) rfl rfl hl.1 rfl (lv_room (Nat.le_of_ble_eq_true rfl)) dL_alternate_4 ⟨Nat.le_of_ble_eq_true rfl, Nat.le_of_ble_eq_true rfl⟩) hS (fun u q9 ce H locs eo hP hS h1 h2 h3 => ?_) (fun m2 H locs eo hP hS => ?_)
  · subst eo
    have h := d_s1 h
    obtain ⟨kx, mx⟩ := u
    have h := d_p2 h
    have hP : va_P g.1 vwCl (dws g mx) H := hP
    have h3 : s.vm.findClass (dEx kx) = some ce.cls := h3
    by_cases hk0 : kx = 3
    · obtain rfl : kx = 3 := hk0
      have h := d_t (rfl : (3 : Nat) = 3) h
      refine vx_catch (E := dEx 3) (name := "java/lang/IndexOutOfBoundsException") S.2.2.2.1 [] { startPc := 0, endPc := 7, handlerPc := 10, catchType := 21 } [] (htab.trans rfl) (fun z hz => by simp at hz) (by decide) (by decide) (S.2.2.2.2 (.classLink RL 21 "java/lang/IndexOutOfBoundsException") (List.mem_of_getElem? (i := 1) rfl)) (va_Nw.use rfl (hE.2.2.2.2.2.2.2.2.1 "java/lang/IndexOutOfBoundsException" (by decide))) h1 h2 h3 ?_
      refine W.eq (g2 := F0 mth 10 ls [.ref q9]) rfl ?_
      refine lv_astore (lv' := [(4, .ref q9), (0, .ref (dad g p0)), (1, .int p1), (2, .int p2), (3, .int p3)]) S.1 S.2.1 dL_alternate_10 hl (by decide) rfl (fun ls hl => ?_)
      refine lv_iconst (v := 1) S.1 S.2.1 dL_alternate_12 (by decide) ?_
      obtain ⟨rfl, rfl⟩ := Prod.mk.inj (Option.some.inj h)
      exact dLti S hr hlk hE hP hS (Nat.le_of_ble_eq_true rfl) (Nat.le_of_ble_eq_true rfl) dL_alternate_13
    · have h := d_f hk0 h
      cases h
  · subst eo
    have h := d_s2 h
    refine lv_goto (tgt := 14) S.1 S.2.1 dL_alternate_7 (by decide) ?_
    refine lv_iconst (v := 0) S.1 S.2.1 dL_alternate_14 (by decide) ?_
    obtain ⟨rfl, rfl⟩ := Prod.mk.inj (Option.some.inj h)
    exact dLti S hr hlk hE hP hS (Nat.le_of_ble_eq_true rfl) (Nat.le_of_ble_eq_true rfl) dL_alternate_15
set_option maxRecDepth 20000 in
theorem ggL_line_X11_line : GoodIn wsL_line wsX11_line := goodIn_ca (goodIn_ca (goodIn_r _ [7, 8, 9, 10, 11, 12, 13, 6, 14, 15, 16, 17, 18, 19, 20, 21, 22, 23, 24, 25, 26, 27, 28, 29, 30, 31, 32, 33, 34, 35, 36, 37, 38, 39, 40, 41, 42, 43, 44, 45, 46, 47, 48, 49, 50, 51, 52, 53, 54, 55, 56, 57, 58, 59, 60, 61, 62, 63, 64, 65, 66, 67, 68, 69, 70, 71, 72, 73, 74, 75, 76, 77, 78, 79, 80, 81, 82, 83, 84, 85, 86, 87, 88, 89, 90, 91, 92, 93, 94, 95, 96, 97, 98, 99, 100, 101] (by decide +kernel) (by decide +kernel)) (goodIn_sub (fun _ h => List.mem_cons_of_mem _ (List.mem_append_left _ (List.mem_append_right _ h))) (by decide +kernel))) (goodIn_sub (fun _ h => List.mem_cons_of_mem _ (List.mem_append_right _ h)) (by decide +kernel))
set_option maxRecDepth 20000 in
theorem gL_line_X11_line : GoodIn wsL_line (wsV RL 31 RX11 yX11_line wsX11_line) := goodIn_app (goodIn_of _ (by decide +kernel)) ggL_line_X11_line
theorem dL_line_0 : decode cL_line 0 = .ok (.aload 5, 2) := by decide +kernel
theorem dL_line_2 : decode cL_line 2 = .ok (.iconst 0, 1) := by decide +kernel
theorem dL_line_3 : decode cL_line 3 = .ok (.aload_n 0, 1) := by decide +kernel
theorem dL_line_4 : decode cL_line 4 = .ok (.iload_n 1, 1) := by decide +kernel
theorem dL_line_5 : decode cL_line 5 = .ok (.iload_n 2, 1) := by decide +kernel
theorem dL_line_6 : decode cL_line 6 = .ok (.iload_n 3, 1) := by decide +kernel
theorem dL_line_7 : decode cL_line 7 = .ok (.iload 4, 2) := by decide +kernel
theorem dL_line_9 : decode cL_line 9 = .ok (.invokevirtual 31, 3) := by decide +kernel
theorem dL_line_12 : decode cL_line 12 = .ok (.i2l, 1) := by decide +kernel
theorem dL_line_13 : decode cL_line 13 = .ok (.lastore, 1) := by decide +kernel
theorem dL_line_14 : decode cL_line 14 = .ok (.goto 11, 3) := by decide +kernel
theorem dL_line_17 : decode cL_line 17 = .ok (.astore 6, 2) := by decide +kernel
theorem dL_line_19 : decode cL_line 19 = .ok (.iconst 1, 1) := by decide +kernel
theorem dL_line_20 : decode cL_line 20 = .ok (.ireturn, 1) := by decide +kernel
theorem dL_line_21 : decode cL_line 21 = .ok (.astore 6, 2) := by decide +kernel
theorem dL_line_23 : decode cL_line 23 = .ok (.iconst 2, 1) := by decide +kernel
theorem dL_line_24 : decode cL_line 24 = .ok (.ireturn, 1) := by decide +kernel
theorem dL_line_25 : decode cL_line 25 = .ok (.iconst 0, 1) := by decide +kernel
theorem dL_line_26 : decode cL_line 26 = .ok (.ireturn, 1) := by decide +kernel
def fL_line (m : dM) (p0 : Nat) (p1 : Int32) (p2 : Int32) (p3 : Int32) (p4 : Int32) (p5 : Nat) : Option (Int32 × dM) := dg (dkg p0 12) (dg (dkg p5 22) ((fX11_line m p0 p1 p2 p3 p4).bind (fun q => dS q (fun x => dP2 x (fun kx mx => if kx = 1 then some (1, mx) else if kx = 2 then some (2, mx) else none)) (fun q => dP2 q (fun v4 m2 => dg (dIx 0 (dL p5)) (dlet (d2 m2 p5 (Int32.toNatClampNeg (0)) (Int32.toInt64 v4)) (fun m5 => some (0, m5))))))))
set_option maxHeartbeats 4000000 in
set_option maxRecDepth 100000 in
theorem kL_line (l : Launch) (g : dG) (hst : l.stackTraces = false) {m : dM} {p0 : Nat} {p1 : Int32} {p2 : Int32} {p3 : Int32} {p4 : Int32} {p5 : Nat} {r0 : Int32} {m0 : dM} (h : fL_line m p0 p1 p2 p3 p4 p5 = some (r0, m0)) : dLMet l g yL_line wsL_line 8 134 1 [.ref (dad g p0), .int p1, .int p2, .int p3, .int p4, .ref (dad g p5)] m r0 m0 := by
  refine dLof (cc := cL_line) (maxL := 7) (ret := (some .int)) (hh := [(0, 14, 17, 13), (0, 14, 21, 15)]) _ (by decide) rfl (Nat.le_of_ble_eq_true rfl) ?_
  intro p e s mth below meth c S hr hlk htab hE H ls hP hS hl
  have S : CallFix p mth c cL_line 7 s _ wsL_line RL := S
  have hl : lv_has ls 7 [(0, .ref (dad g p0)), (1, .int p1), (2, .int p2), (3, .int p3), (4, .int p4), (5, .ref (dad g p5))] := hl
  obtain ⟨locs, hlocs⟩ : ∃ z : List Loc, z = [] := ⟨_, rfl⟩
  rw [← hlocs] at hS ⊢
  unfold fL_line at h
  obtain ⟨k0, h⟩ := d_g h
  have k0 := d_k k0
  obtain ⟨k5, h⟩ := d_g h
  have k5 := d_k k5
  refine lv_aload S.1 S.2.1 dL_line_0 (lv_at hl 5 rfl) ?_
  refine lv_iconst (v := 0) S.1 S.2.1 dL_line_2 (by decide) ?_
  refine lv_aload_n S.1 S.2.1 dL_line_3 rfl (lv_at hl 0 rfl) ?_
  refine lv_iload_n S.1 S.2.1 dL_line_4 rfl (lv_at hl 1 rfl) ?_
  refine lv_iload_n S.1 S.2.1 dL_line_5 rfl (lv_at hl 2 rfl) ?_
  refine lv_iload_n S.1 S.2.1 dL_line_6 rfl (lv_at hl 3 rfl) ?_
  refine lv_iload S.1 S.2.1 dL_line_7 (lv_at hl 4 rfl) ?_
  obtain ⟨q3, hc1, h⟩ := d_b h
  refine dxri (o := q3) (vx_runV (As := [.int p1, .int p2, .int p3, .int p4]) (rest := [.int 0, .ref (dad g p5)]) S (kX11_line l g hst hc1) (cwV 4 S.2.2.2.2 gL_line_X11_line rfl rfl rfl ynX11_line ⟨Nat.le_of_ble_eq_true rfl, Nat.le_of_ble_eq_true rfl⟩) (dpV hE hP hS (ci := 11) rfl (dat12 k0)) rfl rfl hl.1 rfl (lv_room (Nat.le_of_ble_eq_true rfl)) dL_line_9 ⟨Nat.le_of_ble_eq_true rfl, Nat.le_of_ble_eq_true rfl⟩) hS (fun u q9 ce H locs eo hP hS h1 h2 h3 => ?_) (fun v4 m2 H locs eo hP hS => ?_)
  · subst eo
    have h := d_s1 h
    obtain ⟨kx, mx⟩ := u
    have h := d_p2 h
    have hP : va_P g.1 vwCl (dws g mx) H := hP
    have h3 : s.vm.findClass (dEx kx) = some ce.cls := h3
    by_cases hk0 : kx = 1
    · obtain rfl : kx = 1 := hk0
      have h := d_t (rfl : (1 : Nat) = 1) h
      refine vx_catch (E := dEx 1) (name := "java/lang/IllegalArgumentException") S.2.2.2.1 [] { startPc := 0, endPc := 14, handlerPc := 17, catchType := 13 } [{ startPc := 0, endPc := 14, handlerPc := 21, catchType := 15 }] (htab.trans rfl) (fun z hz => by simp at hz) (by decide) (by decide) (S.2.2.2.2 (.classLink RL 13 "java/lang/IllegalArgumentException") (List.mem_of_getElem? (i := 1) rfl)) (va_Nw.use rfl (hE.2.2.2.2.2.2.2.2.1 "java/lang/IllegalArgumentException" (by decide))) h1 h2 h3 ?_
      refine W.eq (g2 := F0 mth 17 ls [.ref q9]) rfl ?_
      refine lv_astore (lv' := [(6, .ref q9), (0, .ref (dad g p0)), (1, .int p1), (2, .int p2), (3, .int p3), (4, .int p4), (5, .ref (dad g p5))]) S.1 S.2.1 dL_line_17 hl (by decide) rfl (fun ls hl => ?_)
      refine lv_iconst (v := 1) S.1 S.2.1 dL_line_19 (by decide) ?_
      obtain ⟨rfl, rfl⟩ := Prod.mk.inj (Option.some.inj h)
      exact dLti S hr hlk hE hP hS (Nat.le_of_ble_eq_true rfl) (Nat.le_of_ble_eq_true rfl) dL_line_20
    · have h := d_f hk0 h
      by_cases hk1 : kx = 2
      · obtain rfl : kx = 2 := hk1
        have h := d_t (rfl : (2 : Nat) = 2) h
        refine vx_catch (E := dEx 2) (name := "java/lang/IllegalStateException") S.2.2.2.1 [{ startPc := 0, endPc := 14, handlerPc := 17, catchType := 13 }] { startPc := 0, endPc := 14, handlerPc := 21, catchType := 15 } [] (htab.trans rfl) (fun z hz => by simp only [List.mem_cons, List.not_mem_nil, or_false] at hz; subst hz; exact Or.inr ⟨by decide, "java/lang/IllegalArgumentException", S.2.2.2.2 (.classLink RL 13 "java/lang/IllegalArgumentException") (List.mem_of_getElem? (i := 1) rfl), hE.2.2.2.2.2.2.2.2.2 (dEx 2) (by decide) "java/lang/IllegalArgumentException" (by decide) (by decide)⟩) (by decide) (by decide) (S.2.2.2.2 (.classLink RL 15 "java/lang/IllegalStateException") (List.mem_of_getElem? (i := 2) rfl)) (va_Nw.use rfl (hE.2.2.2.2.2.2.2.2.1 "java/lang/IllegalStateException" (by decide))) h1 h2 h3 ?_
        refine W.eq (g2 := F0 mth 21 ls [.ref q9]) rfl ?_
        refine lv_astore (lv' := [(6, .ref q9), (0, .ref (dad g p0)), (1, .int p1), (2, .int p2), (3, .int p3), (4, .int p4), (5, .ref (dad g p5))]) S.1 S.2.1 dL_line_21 hl (by decide) rfl (fun ls hl => ?_)
        refine lv_iconst (v := 2) S.1 S.2.1 dL_line_23 (by decide) ?_
        obtain ⟨rfl, rfl⟩ := Prod.mk.inj (Option.some.inj h)
        exact dLti S hr hlk hE hP hS (Nat.le_of_ble_eq_true rfl) (Nat.le_of_ble_eq_true rfl) dL_line_24
      · have h := d_f hk1 h
        cases h
  · subst eo
    have h := d_s2 h
    have h := d_p2 h
    refine lv_i2l S.1 S.2.1 dL_line_12 rfl ?_
    obtain ⟨hi, h⟩ := d_g h
    refine d_last S hE hP hS k5 hi dL_line_13 (fun H locs hP hS => ?_)
    obtain ⟨m5, em5⟩ : ∃ z : dM, z = d2 m2 p5 (Int32.toNatClampNeg (0)) (Int32.toInt64 v4) := ⟨_, rfl⟩
    have h := d_let em5 h
    rw [← em5] at hP
    refine lv_goto (tgt := 25) S.1 S.2.1 dL_line_14 (by decide) ?_
    refine lv_iconst (v := 0) S.1 S.2.1 dL_line_25 (by decide) ?_
    obtain ⟨rfl, rfl⟩ := Prod.mk.inj (Option.some.inj h)
    exact dLti S hr hlk hE hP hS (Nat.le_of_ble_eq_true rfl) (Nat.le_of_ble_eq_true rfl) dL_line_26
set_option maxRecDepth 20000 in
theorem ggL_block_X11_block : GoodIn wsL_block wsX11_block := goodIn_ca (goodIn_ca (goodIn_r _ [7, 8, 9, 10, 11, 6, 12, 13, 14, 15, 16, 17, 18, 19, 20, 21, 22, 23, 24, 25, 26, 27, 28, 29, 30, 31, 32, 33, 34, 35, 36, 37, 38, 39, 40, 41, 42, 43, 44, 45, 46, 47, 48, 49, 50, 51, 52, 53, 54, 55, 56, 57, 58, 59, 60, 61, 62, 63, 64, 65, 66, 67, 68, 69, 70, 71, 72, 73, 74, 75, 76, 77, 78, 79, 80, 81, 82, 83, 84, 85, 86, 87, 88, 89, 90, 91, 92, 93, 94, 95, 96, 97, 98, 99, 100, 101, 102, 103, 104, 105, 106, 107, 108] (by decide +kernel) (by decide +kernel)) (goodIn_sub (fun _ h => List.mem_cons_of_mem _ (List.mem_append_left _ (List.mem_append_right _ h))) (by decide +kernel))) (goodIn_sub (fun _ h => List.mem_cons_of_mem _ (List.mem_append_right _ h)) (by decide +kernel))
set_option maxRecDepth 20000 in
theorem gL_block_X11_block : GoodIn wsL_block (wsV RL 35 RX11 yX11_block wsX11_block) := goodIn_app (goodIn_of _ (by decide +kernel)) ggL_block_X11_block
theorem dL_block_0 : decode cL_block 0 = .ok (.aload 5, 2) := by decide +kernel
theorem dL_block_2 : decode cL_block 2 = .ok (.iconst 0, 1) := by decide +kernel
theorem dL_block_3 : decode cL_block 3 = .ok (.aload_n 0, 1) := by decide +kernel
theorem dL_block_4 : decode cL_block 4 = .ok (.iload_n 1, 1) := by decide +kernel
theorem dL_block_5 : decode cL_block 5 = .ok (.iload_n 2, 1) := by decide +kernel
theorem dL_block_6 : decode cL_block 6 = .ok (.iload_n 3, 1) := by decide +kernel
theorem dL_block_7 : decode cL_block 7 = .ok (.iload 4, 2) := by decide +kernel
theorem dL_block_9 : decode cL_block 9 = .ok (.invokevirtual 35, 3) := by decide +kernel
theorem dL_block_12 : decode cL_block 12 = .ok (.i2l, 1) := by decide +kernel
theorem dL_block_13 : decode cL_block 13 = .ok (.lastore, 1) := by decide +kernel
theorem dL_block_14 : decode cL_block 14 = .ok (.goto 11, 3) := by decide +kernel
theorem dL_block_17 : decode cL_block 17 = .ok (.astore 6, 2) := by decide +kernel
theorem dL_block_19 : decode cL_block 19 = .ok (.iconst 1, 1) := by decide +kernel
theorem dL_block_20 : decode cL_block 20 = .ok (.ireturn, 1) := by decide +kernel
theorem dL_block_21 : decode cL_block 21 = .ok (.astore 6, 2) := by decide +kernel
theorem dL_block_23 : decode cL_block 23 = .ok (.iconst 2, 1) := by decide +kernel
theorem dL_block_24 : decode cL_block 24 = .ok (.ireturn, 1) := by decide +kernel
theorem dL_block_25 : decode cL_block 25 = .ok (.iconst 0, 1) := by decide +kernel
theorem dL_block_26 : decode cL_block 26 = .ok (.ireturn, 1) := by decide +kernel
def fL_block (m : dM) (p0 : Nat) (p1 : Int32) (p2 : Int32) (p3 : Int32) (p4 : Int32) (p5 : Nat) : Option (Int32 × dM) := dg (dkg p0 12) (dg (dkg p5 22) ((fX11_block m p0 p1 p2 p3 p4).bind (fun q => dS q (fun x => dP2 x (fun kx mx => if kx = 1 then some (1, mx) else if kx = 2 then some (2, mx) else none)) (fun q => dP2 q (fun v4 m2 => dg (dIx 0 (dL p5)) (dlet (d2 m2 p5 (Int32.toNatClampNeg (0)) (Int32.toInt64 v4)) (fun m5 => some (0, m5))))))))
set_option maxHeartbeats 4000000 in
set_option maxRecDepth 100000 in
theorem kL_block (l : Launch) (g : dG) (hst : l.stackTraces = false) {m : dM} {p0 : Nat} {p1 : Int32} {p2 : Int32} {p3 : Int32} {p4 : Int32} {p5 : Nat} {r0 : Int32} {m0 : dM} (h : fL_block m p0 p1 p2 p3 p4 p5 = some (r0, m0)) : dLMet l g yL_block wsL_block 8 136 3 [.ref (dad g p0), .int p1, .int p2, .int p3, .int p4, .ref (dad g p5)] m r0 m0 := by
  refine dLof (cc := cL_block) (maxL := 7) (ret := (some .int)) (hh := [(0, 14, 17, 13), (0, 14, 21, 15)]) _ (by decide) rfl (Nat.le_of_ble_eq_true rfl) ?_
  intro p e s mth below meth c S hr hlk htab hE H ls hP hS hl
  have S : CallFix p mth c cL_block 7 s _ wsL_block RL := S
  have hl : lv_has ls 7 [(0, .ref (dad g p0)), (1, .int p1), (2, .int p2), (3, .int p3), (4, .int p4), (5, .ref (dad g p5))] := hl
  obtain ⟨locs, hlocs⟩ : ∃ z : List Loc, z = [] := ⟨_, rfl⟩
  rw [← hlocs] at hS ⊢
  unfold fL_block at h
  obtain ⟨k0, h⟩ := d_g h
  have k0 := d_k k0
  obtain ⟨k5, h⟩ := d_g h
  have k5 := d_k k5
  refine lv_aload S.1 S.2.1 dL_block_0 (lv_at hl 5 rfl) ?_
  refine lv_iconst (v := 0) S.1 S.2.1 dL_block_2 (by decide) ?_
  refine lv_aload_n S.1 S.2.1 dL_block_3 rfl (lv_at hl 0 rfl) ?_
  refine lv_iload_n S.1 S.2.1 dL_block_4 rfl (lv_at hl 1 rfl) ?_
  refine lv_iload_n S.1 S.2.1 dL_block_5 rfl (lv_at hl 2 rfl) ?_
  refine lv_iload_n S.1 S.2.1 dL_block_6 rfl (lv_at hl 3 rfl) ?_
  refine lv_iload S.1 S.2.1 dL_block_7 (lv_at hl 4 rfl) ?_
  obtain ⟨q3, hc1, h⟩ := d_b h
  refine dxri (o := q3) (vx_runV (As := [.int p1, .int p2, .int p3, .int p4]) (rest := [.int 0, .ref (dad g p5)]) S (kX11_block l g hst hc1) (cwV 4 S.2.2.2.2 gL_block_X11_block rfl rfl rfl ynX11_block ⟨Nat.le_of_ble_eq_true rfl, Nat.le_of_ble_eq_true rfl⟩) (dpV hE hP hS (ci := 11) rfl (dat12 k0)) rfl rfl hl.1 rfl (lv_room (Nat.le_of_ble_eq_true rfl)) dL_block_9 ⟨Nat.le_of_ble_eq_true rfl, Nat.le_of_ble_eq_true rfl⟩) hS (fun u q9 ce H locs eo hP hS h1 h2 h3 => ?_) (fun v4 m2 H locs eo hP hS => ?_)
  · subst eo
    have h := d_s1 h
    obtain ⟨kx, mx⟩ := u
    have h := d_p2 h
    have hP : va_P g.1 vwCl (dws g mx) H := hP
    have h3 : s.vm.findClass (dEx kx) = some ce.cls := h3
    by_cases hk0 : kx = 1
    · obtain rfl : kx = 1 := hk0
      have h := d_t (rfl : (1 : Nat) = 1) h
      refine vx_catch (E := dEx 1) (name := "java/lang/IllegalArgumentException") S.2.2.2.1 [] { startPc := 0, endPc := 14, handlerPc := 17, catchType := 13 } [{ startPc := 0, endPc := 14, handlerPc := 21, catchType := 15 }] (htab.trans rfl) (fun z hz => by simp at hz) (by decide) (by decide) (S.2.2.2.2 (.classLink RL 13 "java/lang/IllegalArgumentException") (List.mem_of_getElem? (i := 1) rfl)) (va_Nw.use rfl (hE.2.2.2.2.2.2.2.2.1 "java/lang/IllegalArgumentException" (by decide))) h1 h2 h3 ?_
      refine W.eq (g2 := F0 mth 17 ls [.ref q9]) rfl ?_
      refine lv_astore (lv' := [(6, .ref q9), (0, .ref (dad g p0)), (1, .int p1), (2, .int p2), (3, .int p3), (4, .int p4), (5, .ref (dad g p5))]) S.1 S.2.1 dL_block_17 hl (by decide) rfl (fun ls hl => ?_)
      refine lv_iconst (v := 1) S.1 S.2.1 dL_block_19 (by decide) ?_
      obtain ⟨rfl, rfl⟩ := Prod.mk.inj (Option.some.inj h)
      exact dLti S hr hlk hE hP hS (Nat.le_of_ble_eq_true rfl) (Nat.le_of_ble_eq_true rfl) dL_block_20
    · have h := d_f hk0 h
      by_cases hk1 : kx = 2
      · obtain rfl : kx = 2 := hk1
        have h := d_t (rfl : (2 : Nat) = 2) h
        refine vx_catch (E := dEx 2) (name := "java/lang/IllegalStateException") S.2.2.2.1 [{ startPc := 0, endPc := 14, handlerPc := 17, catchType := 13 }] { startPc := 0, endPc := 14, handlerPc := 21, catchType := 15 } [] (htab.trans rfl) (fun z hz => by simp only [List.mem_cons, List.not_mem_nil, or_false] at hz; subst hz; exact Or.inr ⟨by decide, "java/lang/IllegalArgumentException", S.2.2.2.2 (.classLink RL 13 "java/lang/IllegalArgumentException") (List.mem_of_getElem? (i := 1) rfl), hE.2.2.2.2.2.2.2.2.2 (dEx 2) (by decide) "java/lang/IllegalArgumentException" (by decide) (by decide)⟩) (by decide) (by decide) (S.2.2.2.2 (.classLink RL 15 "java/lang/IllegalStateException") (List.mem_of_getElem? (i := 2) rfl)) (va_Nw.use rfl (hE.2.2.2.2.2.2.2.2.1 "java/lang/IllegalStateException" (by decide))) h1 h2 h3 ?_
        refine W.eq (g2 := F0 mth 21 ls [.ref q9]) rfl ?_
        refine lv_astore (lv' := [(6, .ref q9), (0, .ref (dad g p0)), (1, .int p1), (2, .int p2), (3, .int p3), (4, .int p4), (5, .ref (dad g p5))]) S.1 S.2.1 dL_block_21 hl (by decide) rfl (fun ls hl => ?_)
        refine lv_iconst (v := 2) S.1 S.2.1 dL_block_23 (by decide) ?_
        obtain ⟨rfl, rfl⟩ := Prod.mk.inj (Option.some.inj h)
        exact dLti S hr hlk hE hP hS (Nat.le_of_ble_eq_true rfl) (Nat.le_of_ble_eq_true rfl) dL_block_24
      · have h := d_f hk1 h
        cases h
  · subst eo
    have h := d_s2 h
    have h := d_p2 h
    refine lv_i2l S.1 S.2.1 dL_block_12 rfl ?_
    obtain ⟨hi, h⟩ := d_g h
    refine d_last S hE hP hS k5 hi dL_block_13 (fun H locs hP hS => ?_)
    obtain ⟨m5, em5⟩ : ∃ z : dM, z = d2 m2 p5 (Int32.toNatClampNeg (0)) (Int32.toInt64 v4) := ⟨_, rfl⟩
    have h := d_let em5 h
    rw [← em5] at hP
    refine lv_goto (tgt := 25) S.1 S.2.1 dL_block_14 (by decide) ?_
    refine lv_iconst (v := 0) S.1 S.2.1 dL_block_25 (by decide) ?_
    obtain ⟨rfl, rfl⟩ := Prod.mk.inj (Option.some.inj h)
    exact dLti S hr hlk hE hP hS (Nat.le_of_ble_eq_true rfl) (Nat.le_of_ble_eq_true rfl) dL_block_26
set_option maxRecDepth 20000 in
theorem ggL_wedge_X11_wedge : GoodIn wsL_wedge wsX11_wedge := goodIn_ca (goodIn_ca (goodIn_r _ [7, 8, 9, 10, 11, 6, 12, 13, 14, 15, 16, 17, 18, 19, 20, 21, 22, 23, 24, 25, 26, 27, 28, 29, 30, 31, 32, 33, 34, 35, 36, 37, 38, 39, 40, 41, 42, 43, 44, 45, 46, 47, 48, 49, 50, 51, 52, 53, 54, 55, 56, 57, 58, 59, 60, 61, 62, 63, 64, 65, 66, 67, 68, 69, 70, 71, 72, 73, 74, 75, 76, 77, 78, 79, 80, 81, 82, 83, 84, 85, 86, 87, 88, 89, 90, 91, 92, 93, 94, 95, 96, 97, 98, 99, 100, 101, 102, 103, 104, 105, 106, 107, 108] (by decide +kernel) (by decide +kernel)) (goodIn_sub (fun _ h => List.mem_cons_of_mem _ (List.mem_append_left _ (List.mem_append_right _ h))) (by decide +kernel))) (goodIn_sub (fun _ h => List.mem_cons_of_mem _ (List.mem_append_right _ h)) (by decide +kernel))
set_option maxRecDepth 20000 in
theorem gL_wedge_X11_wedge : GoodIn wsL_wedge (wsV RL 38 RX11 yX11_wedge wsX11_wedge) := goodIn_app (goodIn_of _ (by decide +kernel)) ggL_wedge_X11_wedge
theorem dL_wedge_0 : decode cL_wedge 0 = .ok (.aload 4, 2) := by decide +kernel
theorem dL_wedge_2 : decode cL_wedge 2 = .ok (.iconst 0, 1) := by decide +kernel
theorem dL_wedge_3 : decode cL_wedge 3 = .ok (.aload_n 0, 1) := by decide +kernel
theorem dL_wedge_4 : decode cL_wedge 4 = .ok (.iload_n 1, 1) := by decide +kernel
theorem dL_wedge_5 : decode cL_wedge 5 = .ok (.iload_n 2, 1) := by decide +kernel
theorem dL_wedge_6 : decode cL_wedge 6 = .ok (.iload_n 3, 1) := by decide +kernel
theorem dL_wedge_7 : decode cL_wedge 7 = .ok (.invokevirtual 38, 3) := by decide +kernel
theorem dL_wedge_10 : decode cL_wedge 10 = .ok (.i2l, 1) := by decide +kernel
theorem dL_wedge_11 : decode cL_wedge 11 = .ok (.lastore, 1) := by decide +kernel
theorem dL_wedge_12 : decode cL_wedge 12 = .ok (.goto 11, 3) := by decide +kernel
theorem dL_wedge_15 : decode cL_wedge 15 = .ok (.astore 5, 2) := by decide +kernel
theorem dL_wedge_17 : decode cL_wedge 17 = .ok (.iconst 1, 1) := by decide +kernel
theorem dL_wedge_18 : decode cL_wedge 18 = .ok (.ireturn, 1) := by decide +kernel
theorem dL_wedge_19 : decode cL_wedge 19 = .ok (.astore 5, 2) := by decide +kernel
theorem dL_wedge_21 : decode cL_wedge 21 = .ok (.iconst 2, 1) := by decide +kernel
theorem dL_wedge_22 : decode cL_wedge 22 = .ok (.ireturn, 1) := by decide +kernel
theorem dL_wedge_23 : decode cL_wedge 23 = .ok (.iconst 0, 1) := by decide +kernel
theorem dL_wedge_24 : decode cL_wedge 24 = .ok (.ireturn, 1) := by decide +kernel
def fL_wedge (m : dM) (p0 : Nat) (p1 : Int32) (p2 : Int32) (p3 : Int32) (p4 : Nat) : Option (Int32 × dM) := dg (dkg p0 12) (dg (dkg p4 22) ((fX11_wedge m p0 p1 p2 p3).bind (fun q => dS q (fun x => dP2 x (fun kx mx => if kx = 1 then some (1, mx) else if kx = 2 then some (2, mx) else none)) (fun q => dP2 q (fun v4 m2 => dg (dIx 0 (dL p4)) (dlet (d2 m2 p4 (Int32.toNatClampNeg (0)) (Int32.toInt64 v4)) (fun m5 => some (0, m5))))))))
set_option maxHeartbeats 4000000 in
set_option maxRecDepth 100000 in
theorem kL_wedge (l : Launch) (g : dG) (hst : l.stackTraces = false) {m : dM} {p0 : Nat} {p1 : Int32} {p2 : Int32} {p3 : Int32} {p4 : Nat} {r0 : Int32} {m0 : dM} (h : fL_wedge m p0 p1 p2 p3 p4 = some (r0, m0)) : dLMet l g yL_wedge wsL_wedge 8 135 2 [.ref (dad g p0), .int p1, .int p2, .int p3, .ref (dad g p4)] m r0 m0 := by
  refine dLof (cc := cL_wedge) (maxL := 6) (ret := (some .int)) (hh := [(0, 12, 15, 13), (0, 12, 19, 15)]) _ (by decide) rfl (Nat.le_of_ble_eq_true rfl) ?_
  intro p e s mth below meth c S hr hlk htab hE H ls hP hS hl
  have S : CallFix p mth c cL_wedge 6 s _ wsL_wedge RL := S
  have hl : lv_has ls 6 [(0, .ref (dad g p0)), (1, .int p1), (2, .int p2), (3, .int p3), (4, .ref (dad g p4))] := hl
  obtain ⟨locs, hlocs⟩ : ∃ z : List Loc, z = [] := ⟨_, rfl⟩
  rw [← hlocs] at hS ⊢
  unfold fL_wedge at h
  obtain ⟨k0, h⟩ := d_g h
  have k0 := d_k k0
  obtain ⟨k4, h⟩ := d_g h
  have k4 := d_k k4
  refine lv_aload S.1 S.2.1 dL_wedge_0 (lv_at hl 4 rfl) ?_
  refine lv_iconst (v := 0) S.1 S.2.1 dL_wedge_2 (by decide) ?_
  refine lv_aload_n S.1 S.2.1 dL_wedge_3 rfl (lv_at hl 0 rfl) ?_
  refine lv_iload_n S.1 S.2.1 dL_wedge_4 rfl (lv_at hl 1 rfl) ?_
  refine lv_iload_n S.1 S.2.1 dL_wedge_5 rfl (lv_at hl 2 rfl) ?_
  refine lv_iload_n S.1 S.2.1 dL_wedge_6 rfl (lv_at hl 3 rfl) ?_
  obtain ⟨q3, hc1, h⟩ := d_b h
  refine dxri (o := q3) (vx_runV (As := [.int p1, .int p2, .int p3]) (rest := [.int 0, .ref (dad g p4)]) S (kX11_wedge l g hst hc1) (cwV 3 S.2.2.2.2 gL_wedge_X11_wedge rfl rfl rfl ynX11_wedge ⟨Nat.le_of_ble_eq_true rfl, Nat.le_of_ble_eq_true rfl⟩) (dpV hE hP hS (ci := 11) rfl (dat12 k0)) rfl rfl hl.1 rfl (lv_room (Nat.le_of_ble_eq_true rfl)) dL_wedge_7 ⟨Nat.le_of_ble_eq_true rfl, Nat.le_of_ble_eq_true rfl⟩) hS (fun u q9 ce H locs eo hP hS h1 h2 h3 => ?_) (fun v4 m2 H locs eo hP hS => ?_)
  · subst eo
    have h := d_s1 h
    obtain ⟨kx, mx⟩ := u
    have h := d_p2 h
    have hP : va_P g.1 vwCl (dws g mx) H := hP
    have h3 : s.vm.findClass (dEx kx) = some ce.cls := h3
    by_cases hk0 : kx = 1
    · obtain rfl : kx = 1 := hk0
      have h := d_t (rfl : (1 : Nat) = 1) h
      refine vx_catch (E := dEx 1) (name := "java/lang/IllegalArgumentException") S.2.2.2.1 [] { startPc := 0, endPc := 12, handlerPc := 15, catchType := 13 } [{ startPc := 0, endPc := 12, handlerPc := 19, catchType := 15 }] (htab.trans rfl) (fun z hz => by simp at hz) (by decide) (by decide) (S.2.2.2.2 (.classLink RL 13 "java/lang/IllegalArgumentException") (List.mem_of_getElem? (i := 1) rfl)) (va_Nw.use rfl (hE.2.2.2.2.2.2.2.2.1 "java/lang/IllegalArgumentException" (by decide))) h1 h2 h3 ?_
      refine W.eq (g2 := F0 mth 15 ls [.ref q9]) rfl ?_
      refine lv_astore (lv' := [(5, .ref q9), (0, .ref (dad g p0)), (1, .int p1), (2, .int p2), (3, .int p3), (4, .ref (dad g p4))]) S.1 S.2.1 dL_wedge_15 hl (by decide) rfl (fun ls hl => ?_)
      refine lv_iconst (v := 1) S.1 S.2.1 dL_wedge_17 (by decide) ?_
      obtain ⟨rfl, rfl⟩ := Prod.mk.inj (Option.some.inj h)
      exact dLti S hr hlk hE hP hS (Nat.le_of_ble_eq_true rfl) (Nat.le_of_ble_eq_true rfl) dL_wedge_18
    · have h := d_f hk0 h
      by_cases hk1 : kx = 2
      · obtain rfl : kx = 2 := hk1
        have h := d_t (rfl : (2 : Nat) = 2) h
        refine vx_catch (E := dEx 2) (name := "java/lang/IllegalStateException") S.2.2.2.1 [{ startPc := 0, endPc := 12, handlerPc := 15, catchType := 13 }] { startPc := 0, endPc := 12, handlerPc := 19, catchType := 15 } [] (htab.trans rfl) (fun z hz => by simp only [List.mem_cons, List.not_mem_nil, or_false] at hz; subst hz; exact Or.inr ⟨by decide, "java/lang/IllegalArgumentException", S.2.2.2.2 (.classLink RL 13 "java/lang/IllegalArgumentException") (List.mem_of_getElem? (i := 1) rfl), hE.2.2.2.2.2.2.2.2.2 (dEx 2) (by decide) "java/lang/IllegalArgumentException" (by decide) (by decide)⟩) (by decide) (by decide) (S.2.2.2.2 (.classLink RL 15 "java/lang/IllegalStateException") (List.mem_of_getElem? (i := 2) rfl)) (va_Nw.use rfl (hE.2.2.2.2.2.2.2.2.1 "java/lang/IllegalStateException" (by decide))) h1 h2 h3 ?_
        refine W.eq (g2 := F0 mth 19 ls [.ref q9]) rfl ?_
        refine lv_astore (lv' := [(5, .ref q9), (0, .ref (dad g p0)), (1, .int p1), (2, .int p2), (3, .int p3), (4, .ref (dad g p4))]) S.1 S.2.1 dL_wedge_19 hl (by decide) rfl (fun ls hl => ?_)
        refine lv_iconst (v := 2) S.1 S.2.1 dL_wedge_21 (by decide) ?_
        obtain ⟨rfl, rfl⟩ := Prod.mk.inj (Option.some.inj h)
        exact dLti S hr hlk hE hP hS (Nat.le_of_ble_eq_true rfl) (Nat.le_of_ble_eq_true rfl) dL_wedge_22
      · have h := d_f hk1 h
        cases h
  · subst eo
    have h := d_s2 h
    have h := d_p2 h
    refine lv_i2l S.1 S.2.1 dL_wedge_10 rfl ?_
    obtain ⟨hi, h⟩ := d_g h
    refine d_last S hE hP hS k4 hi dL_wedge_11 (fun H locs hP hS => ?_)
    obtain ⟨m5, em5⟩ : ∃ z : dM, z = d2 m2 p4 (Int32.toNatClampNeg (0)) (Int32.toInt64 v4) := ⟨_, rfl⟩
    have h := d_let em5 h
    rw [← em5] at hP
    refine lv_goto (tgt := 23) S.1 S.2.1 dL_wedge_12 (by decide) ?_
    refine lv_iconst (v := 0) S.1 S.2.1 dL_wedge_23 (by decide) ?_
    obtain ⟨rfl, rfl⟩ := Prod.mk.inj (Option.some.inj h)
    exact dLti S hr hlk hE hP hS (Nat.le_of_ble_eq_true rfl) (Nat.le_of_ble_eq_true rfl) dL_wedge_24
set_option maxRecDepth 20000 in
theorem ggL_part_X11_part : GoodIn wsL_part wsX11_part := goodIn_ca (goodIn_ca (goodIn_ca (goodIn_r _ [8, 9, 10, 11, 12, 13, 14, 15, 16, 17, 18, 19, 20, 21, 7, 22, 23, 24, 25, 26, 27, 28, 29, 30, 31, 32, 33, 34, 35, 36, 37, 38, 39, 40, 41, 42, 43, 44, 45, 46, 47, 48, 49, 50, 51, 52, 53, 54, 55, 56, 57, 58, 59, 60, 61, 62, 63, 64, 65, 66, 67, 68, 69, 70, 71, 72, 73, 74, 75, 76, 77, 78, 79, 80, 81, 82, 83, 84, 85, 86, 87, 88, 89, 90, 91, 92, 93, 94, 95, 96, 97, 98, 99, 100, 101, 102, 103, 104, 105, 106, 107, 108, 109, 110, 111, 112, 113, 114, 115, 116, 117, 118, 119, 120, 121, 122, 123, 124, 125, 126, 127, 128, 129, 130, 131, 132, 133, 134, 135, 136, 137, 138, 139, 140, 141, 142, 143, 144, 145, 146, 147, 148, 149, 150, 151, 152, 153, 154, 155, 156, 157, 158, 159, 160, 161, 162, 163, 164, 165, 166, 167, 168, 169, 170, 171, 172, 173, 174, 175, 176, 177, 178, 179, 180, 181, 182, 183, 184, 185, 186, 187, 188, 189, 190, 191, 192, 193, 194, 195, 196, 197, 198, 199, 200, 201, 202, 203, 204, 205, 206, 207, 208, 209, 210, 211, 212, 213, 214, 215, 216, 217, 218, 219] (by decide +kernel) (by decide +kernel)) (goodIn_sub (fun _ h => List.mem_cons_of_mem _ (List.mem_append_left _ (List.mem_append_left _ (List.mem_append_right _ h)))) (by decide +kernel))) (goodIn_sub (fun _ h => List.mem_cons_of_mem _ (List.mem_append_left _ (List.mem_append_right _ h))) (by decide +kernel))) (goodIn_sub (fun _ h => List.mem_cons_of_mem _ (List.mem_append_right _ h)) (by decide +kernel))
set_option maxRecDepth 20000 in
theorem gL_part_X11_part : GoodIn wsL_part (wsV RL 42 RX11 yX11_part wsX11_part) := goodIn_app (goodIn_of _ (by decide +kernel)) ggL_part_X11_part
theorem dL_part_0 : decode cL_part 0 = .ok (.aload 5, 2) := by decide +kernel
theorem dL_part_2 : decode cL_part 2 = .ok (.iconst 0, 1) := by decide +kernel
theorem dL_part_3 : decode cL_part 3 = .ok (.aload_n 0, 1) := by decide +kernel
theorem dL_part_4 : decode cL_part 4 = .ok (.iload_n 1, 1) := by decide +kernel
theorem dL_part_5 : decode cL_part 5 = .ok (.iload_n 2, 1) := by decide +kernel
theorem dL_part_6 : decode cL_part 6 = .ok (.iload_n 3, 1) := by decide +kernel
theorem dL_part_7 : decode cL_part 7 = .ok (.iload 4, 2) := by decide +kernel
theorem dL_part_9 : decode cL_part 9 = .ok (.invokevirtual 42, 3) := by decide +kernel
theorem dL_part_12 : decode cL_part 12 = .ok (.i2l, 1) := by decide +kernel
theorem dL_part_13 : decode cL_part 13 = .ok (.lastore, 1) := by decide +kernel
theorem dL_part_14 : decode cL_part 14 = .ok (.goto 15, 3) := by decide +kernel
theorem dL_part_17 : decode cL_part 17 = .ok (.astore 6, 2) := by decide +kernel
theorem dL_part_19 : decode cL_part 19 = .ok (.iconst 1, 1) := by decide +kernel
theorem dL_part_20 : decode cL_part 20 = .ok (.ireturn, 1) := by decide +kernel
theorem dL_part_21 : decode cL_part 21 = .ok (.astore 6, 2) := by decide +kernel
theorem dL_part_23 : decode cL_part 23 = .ok (.iconst 2, 1) := by decide +kernel
theorem dL_part_24 : decode cL_part 24 = .ok (.ireturn, 1) := by decide +kernel
theorem dL_part_25 : decode cL_part 25 = .ok (.astore 6, 2) := by decide +kernel
theorem dL_part_27 : decode cL_part 27 = .ok (.iconst 3, 1) := by decide +kernel
theorem dL_part_28 : decode cL_part 28 = .ok (.ireturn, 1) := by decide +kernel
theorem dL_part_29 : decode cL_part 29 = .ok (.iconst 0, 1) := by decide +kernel
theorem dL_part_30 : decode cL_part 30 = .ok (.ireturn, 1) := by decide +kernel
def fL_part (m : dM) (p0 : Nat) (p1 : Int32) (p2 : Int32) (p3 : Int32) (p4 : Int32) (p5 : Nat) : Option (Int32 × dM) := dg (dkg p0 12) (dg (dkg p5 22) ((fX11_part m p0 p1 p2 p3 p4).bind (fun q => dS q (fun x => dP2 x (fun kx mx => if kx = 3 then some (1, mx) else if kx = 1 then some (2, mx) else if kx = 2 then some (3, mx) else none)) (fun q => dP2 q (fun v4 m2 => dg (dIx 0 (dL p5)) (dlet (d2 m2 p5 (Int32.toNatClampNeg (0)) (Int32.toInt64 v4)) (fun m5 => some (0, m5))))))))
set_option maxHeartbeats 4000000 in
set_option maxRecDepth 100000 in
theorem kL_part (l : Launch) (g : dG) (hst : l.stackTraces = false) {m : dM} {p0 : Nat} {p1 : Int32} {p2 : Int32} {p3 : Int32} {p4 : Int32} {p5 : Nat} {r0 : Int32} {m0 : dM} (h : fL_part m p0 p1 p2 p3 p4 p5 = some (r0, m0)) : dLMet l g yL_part wsL_part 8 166 4 [.ref (dad g p0), .int p1, .int p2, .int p3, .int p4, .ref (dad g p5)] m r0 m0 := by
  refine dLof (cc := cL_part) (maxL := 7) (ret := (some .int)) (hh := [(0, 14, 17, 21), (0, 14, 21, 13), (0, 14, 25, 15)]) _ (by decide) rfl (Nat.le_of_ble_eq_true rfl) ?_
  intro p e s mth below meth c S hr hlk htab hE H ls hP hS hl
  have S : CallFix p mth c cL_part 7 s _ wsL_part RL := S
  have hl : lv_has ls 7 [(0, .ref (dad g p0)), (1, .int p1), (2, .int p2), (3, .int p3), (4, .int p4), (5, .ref (dad g p5))] := hl
  obtain ⟨locs, hlocs⟩ : ∃ z : List Loc, z = [] := ⟨_, rfl⟩
  rw [← hlocs] at hS ⊢
  unfold fL_part at h
  obtain ⟨k0, h⟩ := d_g h
  have k0 := d_k k0
  obtain ⟨k5, h⟩ := d_g h
  have k5 := d_k k5
  refine lv_aload S.1 S.2.1 dL_part_0 (lv_at hl 5 rfl) ?_
  refine lv_iconst (v := 0) S.1 S.2.1 dL_part_2 (by decide) ?_
  refine lv_aload_n S.1 S.2.1 dL_part_3 rfl (lv_at hl 0 rfl) ?_
  refine lv_iload_n S.1 S.2.1 dL_part_4 rfl (lv_at hl 1 rfl) ?_
  refine lv_iload_n S.1 S.2.1 dL_part_5 rfl (lv_at hl 2 rfl) ?_
  refine lv_iload_n S.1 S.2.1 dL_part_6 rfl (lv_at hl 3 rfl) ?_
  refine lv_iload S.1 S.2.1 dL_part_7 (lv_at hl 4 rfl) ?_
  obtain ⟨q3, hc1, h⟩ := d_b h
  refine dxri (o := q3) (vx_runV (As := [.int p1, .int p2, .int p3, .int p4]) (rest := [.int 0, .ref (dad g p5)]) S (kX11_part l g hst hc1) (cwV 4 S.2.2.2.2 gL_part_X11_part rfl rfl rfl ynX11_part ⟨Nat.le_of_ble_eq_true rfl, Nat.le_of_ble_eq_true rfl⟩) (dpV hE hP hS (ci := 11) rfl (dat12 k0)) rfl rfl hl.1 rfl (lv_room (Nat.le_of_ble_eq_true rfl)) dL_part_9 ⟨Nat.le_of_ble_eq_true rfl, Nat.le_of_ble_eq_true rfl⟩) hS (fun u q9 ce H locs eo hP hS h1 h2 h3 => ?_) (fun v4 m2 H locs eo hP hS => ?_)
  · subst eo
    have h := d_s1 h
    obtain ⟨kx, mx⟩ := u
    have h := d_p2 h
    have hP : va_P g.1 vwCl (dws g mx) H := hP
    have h3 : s.vm.findClass (dEx kx) = some ce.cls := h3
    by_cases hk0 : kx = 3
    · obtain rfl : kx = 3 := hk0
      have h := d_t (rfl : (3 : Nat) = 3) h
      refine vx_catch (E := dEx 3) (name := "java/lang/IndexOutOfBoundsException") S.2.2.2.1 [] { startPc := 0, endPc := 14, handlerPc := 17, catchType := 21 } [{ startPc := 0, endPc := 14, handlerPc := 21, catchType := 13 }, { startPc := 0, endPc := 14, handlerPc := 25, catchType := 15 }] (htab.trans rfl) (fun z hz => by simp at hz) (by decide) (by decide) (S.2.2.2.2 (.classLink RL 21 "java/lang/IndexOutOfBoundsException") (List.mem_of_getElem? (i := 1) rfl)) (va_Nw.use rfl (hE.2.2.2.2.2.2.2.2.1 "java/lang/IndexOutOfBoundsException" (by decide))) h1 h2 h3 ?_
      refine W.eq (g2 := F0 mth 17 ls [.ref q9]) rfl ?_
      refine lv_astore (lv' := [(6, .ref q9), (0, .ref (dad g p0)), (1, .int p1), (2, .int p2), (3, .int p3), (4, .int p4), (5, .ref (dad g p5))]) S.1 S.2.1 dL_part_17 hl (by decide) rfl (fun ls hl => ?_)
      refine lv_iconst (v := 1) S.1 S.2.1 dL_part_19 (by decide) ?_
      obtain ⟨rfl, rfl⟩ := Prod.mk.inj (Option.some.inj h)
      exact dLti S hr hlk hE hP hS (Nat.le_of_ble_eq_true rfl) (Nat.le_of_ble_eq_true rfl) dL_part_20
    · have h := d_f hk0 h
      by_cases hk1 : kx = 1
      · obtain rfl : kx = 1 := hk1
        have h := d_t (rfl : (1 : Nat) = 1) h
        refine vx_catch (E := dEx 1) (name := "java/lang/IllegalArgumentException") S.2.2.2.1 [{ startPc := 0, endPc := 14, handlerPc := 17, catchType := 21 }] { startPc := 0, endPc := 14, handlerPc := 21, catchType := 13 } [{ startPc := 0, endPc := 14, handlerPc := 25, catchType := 15 }] (htab.trans rfl) (fun z hz => by simp only [List.mem_cons, List.not_mem_nil, or_false] at hz; subst hz; exact Or.inr ⟨by decide, "java/lang/IndexOutOfBoundsException", S.2.2.2.2 (.classLink RL 21 "java/lang/IndexOutOfBoundsException") (List.mem_of_getElem? (i := 1) rfl), hE.2.2.2.2.2.2.2.2.2 (dEx 1) (by decide) "java/lang/IndexOutOfBoundsException" (by decide) (by decide)⟩) (by decide) (by decide) (S.2.2.2.2 (.classLink RL 13 "java/lang/IllegalArgumentException") (List.mem_of_getElem? (i := 2) rfl)) (va_Nw.use rfl (hE.2.2.2.2.2.2.2.2.1 "java/lang/IllegalArgumentException" (by decide))) h1 h2 h3 ?_
        refine W.eq (g2 := F0 mth 21 ls [.ref q9]) rfl ?_
        refine lv_astore (lv' := [(6, .ref q9), (0, .ref (dad g p0)), (1, .int p1), (2, .int p2), (3, .int p3), (4, .int p4), (5, .ref (dad g p5))]) S.1 S.2.1 dL_part_21 hl (by decide) rfl (fun ls hl => ?_)
        refine lv_iconst (v := 2) S.1 S.2.1 dL_part_23 (by decide) ?_
        obtain ⟨rfl, rfl⟩ := Prod.mk.inj (Option.some.inj h)
        exact dLti S hr hlk hE hP hS (Nat.le_of_ble_eq_true rfl) (Nat.le_of_ble_eq_true rfl) dL_part_24
      · have h := d_f hk1 h
        by_cases hk2 : kx = 2
        · obtain rfl : kx = 2 := hk2
          have h := d_t (rfl : (2 : Nat) = 2) h
          refine vx_catch (E := dEx 2) (name := "java/lang/IllegalStateException") S.2.2.2.1 [{ startPc := 0, endPc := 14, handlerPc := 17, catchType := 21 }, { startPc := 0, endPc := 14, handlerPc := 21, catchType := 13 }] { startPc := 0, endPc := 14, handlerPc := 25, catchType := 15 } [] (htab.trans rfl) (fun z hz => by simp only [List.mem_cons, List.not_mem_nil, or_false] at hz; rcases hz with rfl | rfl; exact Or.inr ⟨by decide, "java/lang/IndexOutOfBoundsException", S.2.2.2.2 (.classLink RL 21 "java/lang/IndexOutOfBoundsException") (List.mem_of_getElem? (i := 1) rfl), hE.2.2.2.2.2.2.2.2.2 (dEx 2) (by decide) "java/lang/IndexOutOfBoundsException" (by decide) (by decide)⟩; exact Or.inr ⟨by decide, "java/lang/IllegalArgumentException", S.2.2.2.2 (.classLink RL 13 "java/lang/IllegalArgumentException") (List.mem_of_getElem? (i := 2) rfl), hE.2.2.2.2.2.2.2.2.2 (dEx 2) (by decide) "java/lang/IllegalArgumentException" (by decide) (by decide)⟩) (by decide) (by decide) (S.2.2.2.2 (.classLink RL 15 "java/lang/IllegalStateException") (List.mem_of_getElem? (i := 3) rfl)) (va_Nw.use rfl (hE.2.2.2.2.2.2.2.2.1 "java/lang/IllegalStateException" (by decide))) h1 h2 h3 ?_
          refine W.eq (g2 := F0 mth 25 ls [.ref q9]) rfl ?_
          refine lv_astore (lv' := [(6, .ref q9), (0, .ref (dad g p0)), (1, .int p1), (2, .int p2), (3, .int p3), (4, .int p4), (5, .ref (dad g p5))]) S.1 S.2.1 dL_part_25 hl (by decide) rfl (fun ls hl => ?_)
          refine lv_iconst (v := 3) S.1 S.2.1 dL_part_27 (by decide) ?_
          obtain ⟨rfl, rfl⟩ := Prod.mk.inj (Option.some.inj h)
          exact dLti S hr hlk hE hP hS (Nat.le_of_ble_eq_true rfl) (Nat.le_of_ble_eq_true rfl) dL_part_28
        · have h := d_f hk2 h
          cases h
  · subst eo
    have h := d_s2 h
    have h := d_p2 h
    refine lv_i2l S.1 S.2.1 dL_part_12 rfl ?_
    obtain ⟨hi, h⟩ := d_g h
    refine d_last S hE hP hS k5 hi dL_part_13 (fun H locs hP hS => ?_)
    obtain ⟨m5, em5⟩ : ∃ z : dM, z = d2 m2 p5 (Int32.toNatClampNeg (0)) (Int32.toInt64 v4) := ⟨_, rfl⟩
    have h := d_let em5 h
    rw [← em5] at hP
    refine lv_goto (tgt := 29) S.1 S.2.1 dL_part_14 (by decide) ?_
    refine lv_iconst (v := 0) S.1 S.2.1 dL_part_29 (by decide) ?_
    obtain ⟨rfl, rfl⟩ := Prod.mk.inj (Option.some.inj h)
    exact dLti S hr hlk hE hP hS (Nat.le_of_ble_eq_true rfl) (Nat.le_of_ble_eq_true rfl) dL_part_30
set_option maxRecDepth 20000 in
theorem ggL_change_X11_change : GoodIn wsL_change wsX11_change := goodIn_ca (goodIn_ca (goodIn_r _ [7, 8, 9, 10, 11, 12, 13, 6, 14, 15, 16, 17, 18, 19, 20, 21, 22, 23, 24, 25, 26, 27, 28, 29, 30, 31, 32, 33, 34, 35, 36, 37, 38, 39, 40, 41, 42, 43, 44, 45, 46, 47, 48, 49, 50, 51, 52, 53, 54, 55, 56, 57, 58, 59, 60, 61, 62, 63, 64, 65, 66, 67, 68, 69, 70, 71, 72, 73, 74, 75, 76, 77, 78, 79, 80, 81, 82, 83, 84, 85, 86, 87, 88, 89, 90, 91, 92, 93, 94, 95, 96, 97, 98, 99, 100, 101, 102, 103, 104, 105, 106, 107, 108, 109, 110, 111, 112, 113, 114, 115, 116, 117, 118, 119, 120, 121, 122, 123, 124, 125, 126, 127, 128, 129, 130, 131, 132, 133, 134, 135, 136, 137, 138, 139, 140, 141, 142, 143, 144, 145, 146, 147, 148, 149, 150, 151, 152, 153, 154, 155, 156, 157, 158, 159, 160, 161, 162, 163, 164, 165, 166, 167, 168, 169, 170, 171, 172, 173, 174, 175, 176, 177, 178, 179, 180, 181, 182, 183, 184, 185, 186, 187, 188, 189, 190, 191, 192, 193, 194, 195, 196, 197, 198, 199, 200, 201, 202, 203, 204, 205, 206, 207, 208, 209, 210, 211, 212, 213, 214, 215] (by decide +kernel) (by decide +kernel)) (goodIn_sub (fun _ h => List.mem_cons_of_mem _ (List.mem_append_left _ (List.mem_append_right _ h))) (by decide +kernel))) (goodIn_sub (fun _ h => List.mem_cons_of_mem _ (List.mem_append_right _ h)) (by decide +kernel))
set_option maxRecDepth 20000 in
theorem gL_change_X11_change : GoodIn wsL_change (wsV RL 46 RX11 yX11_change wsX11_change) := goodIn_app (goodIn_of _ (by decide +kernel)) ggL_change_X11_change
theorem dL_change_0 : decode cL_change 0 = .ok (.aload_n 0, 1) := by decide +kernel
theorem dL_change_1 : decode cL_change 1 = .ok (.iload_n 1, 1) := by decide +kernel
theorem dL_change_2 : decode cL_change 2 = .ok (.iload_n 2, 1) := by decide +kernel
theorem dL_change_3 : decode cL_change 3 = .ok (.iload_n 3, 1) := by decide +kernel
theorem dL_change_4 : decode cL_change 4 = .ok (.iload 4, 2) := by decide +kernel
theorem dL_change_6 : decode cL_change 6 = .ok (.iload 5, 2) := by decide +kernel
theorem dL_change_8 : decode cL_change 8 = .ok (.invokevirtual 46, 3) := by decide +kernel
theorem dL_change_11 : decode cL_change 11 = .ok (.goto 11, 3) := by decide +kernel
theorem dL_change_14 : decode cL_change 14 = .ok (.astore 6, 2) := by decide +kernel
theorem dL_change_16 : decode cL_change 16 = .ok (.iconst 1, 1) := by decide +kernel
theorem dL_change_17 : decode cL_change 17 = .ok (.ireturn, 1) := by decide +kernel
theorem dL_change_18 : decode cL_change 18 = .ok (.astore 6, 2) := by decide +kernel
theorem dL_change_20 : decode cL_change 20 = .ok (.iconst 2, 1) := by decide +kernel
theorem dL_change_21 : decode cL_change 21 = .ok (.ireturn, 1) := by decide +kernel
theorem dL_change_22 : decode cL_change 22 = .ok (.iconst 0, 1) := by decide +kernel
theorem dL_change_23 : decode cL_change 23 = .ok (.ireturn, 1) := by decide +kernel
def fL_change (m : dM) (p0 : Nat) (p1 : Int32) (p2 : Int32) (p3 : Int32) (p4 : Int32) (p5 : Int32) : Option (Int32 × dM) := dg (dkg p0 12) ((fX11_change m p0 p1 p2 p3 p4 p5).bind (fun q => dS q (fun x => dP2 x (fun kx mx => if kx = 3 then some (1, mx) else if kx = 1 then some (2, mx) else none)) (fun m2 => some (0, m2))))
set_option maxHeartbeats 4000000 in
set_option maxRecDepth 100000 in
theorem kL_change (l : Launch) (g : dG) (hst : l.stackTraces = false) {m : dM} {p0 : Nat} {p1 : Int32} {p2 : Int32} {p3 : Int32} {p4 : Int32} {p5 : Int32} {r0 : Int32} {m0 : dM} (h : fL_change m p0 p1 p2 p3 p4 p5 = some (r0, m0)) : dLMet l g yL_change wsL_change 9 166 4 [.ref (dad g p0), .int p1, .int p2, .int p3, .int p4, .int p5] m r0 m0 := by
  refine dLof (cc := cL_change) (maxL := 7) (ret := (some .int)) (hh := [(0, 11, 14, 21), (0, 11, 18, 13)]) _ (by decide) rfl (Nat.le_of_ble_eq_true rfl) ?_
  intro p e s mth below meth c S hr hlk htab hE H ls hP hS hl
  have S : CallFix p mth c cL_change 7 s _ wsL_change RL := S
  have hl : lv_has ls 7 [(0, .ref (dad g p0)), (1, .int p1), (2, .int p2), (3, .int p3), (4, .int p4), (5, .int p5)] := hl
  obtain ⟨locs, hlocs⟩ : ∃ z : List Loc, z = [] := ⟨_, rfl⟩
  rw [← hlocs] at hS ⊢
  unfold fL_change at h
  obtain ⟨k0, h⟩ := d_g h
  have k0 := d_k k0
  refine lv_aload_n S.1 S.2.1 dL_change_0 rfl (lv_at hl 0 rfl) ?_
  refine lv_iload_n S.1 S.2.1 dL_change_1 rfl (lv_at hl 1 rfl) ?_
  refine lv_iload_n S.1 S.2.1 dL_change_2 rfl (lv_at hl 2 rfl) ?_
  refine lv_iload_n S.1 S.2.1 dL_change_3 rfl (lv_at hl 3 rfl) ?_
  refine lv_iload S.1 S.2.1 dL_change_4 (lv_at hl 4 rfl) ?_
  refine lv_iload S.1 S.2.1 dL_change_6 (lv_at hl 5 rfl) ?_
  obtain ⟨q3, hc1, h⟩ := d_b h
  refine dxrv (o := q3) (vx_runV (As := [.int p1, .int p2, .int p3, .int p4, .int p5]) (rest := []) S (kX11_change l g hst hc1) (cwV 5 S.2.2.2.2 gL_change_X11_change rfl rfl rfl ynX11_change ⟨Nat.le_of_ble_eq_true rfl, Nat.le_of_ble_eq_true rfl⟩) (dpV hE hP hS (ci := 11) rfl (dat12 k0)) rfl rfl hl.1 rfl (lv_room (Nat.le_of_ble_eq_true rfl)) dL_change_8 ⟨Nat.le_of_ble_eq_true rfl, Nat.le_of_ble_eq_true rfl⟩) hS (fun u q9 ce H locs eo hP hS h1 h2 h3 => ?_) (fun m2 H locs eo hP hS => ?_)
  · subst eo
    have h := d_s1 h
    obtain ⟨kx, mx⟩ := u
    have h := d_p2 h
    have hP : va_P g.1 vwCl (dws g mx) H := hP
    have h3 : s.vm.findClass (dEx kx) = some ce.cls := h3
    by_cases hk0 : kx = 3
    · obtain rfl : kx = 3 := hk0
      have h := d_t (rfl : (3 : Nat) = 3) h
      refine vx_catch (E := dEx 3) (name := "java/lang/IndexOutOfBoundsException") S.2.2.2.1 [] { startPc := 0, endPc := 11, handlerPc := 14, catchType := 21 } [{ startPc := 0, endPc := 11, handlerPc := 18, catchType := 13 }] (htab.trans rfl) (fun z hz => by simp at hz) (by decide) (by decide) (S.2.2.2.2 (.classLink RL 21 "java/lang/IndexOutOfBoundsException") (List.mem_of_getElem? (i := 1) rfl)) (va_Nw.use rfl (hE.2.2.2.2.2.2.2.2.1 "java/lang/IndexOutOfBoundsException" (by decide))) h1 h2 h3 ?_
      refine W.eq (g2 := F0 mth 14 ls [.ref q9]) rfl ?_
      refine lv_astore (lv' := [(6, .ref q9), (0, .ref (dad g p0)), (1, .int p1), (2, .int p2), (3, .int p3), (4, .int p4), (5, .int p5)]) S.1 S.2.1 dL_change_14 hl (by decide) rfl (fun ls hl => ?_)
      refine lv_iconst (v := 1) S.1 S.2.1 dL_change_16 (by decide) ?_
      obtain ⟨rfl, rfl⟩ := Prod.mk.inj (Option.some.inj h)
      exact dLti S hr hlk hE hP hS (Nat.le_of_ble_eq_true rfl) (Nat.le_of_ble_eq_true rfl) dL_change_17
    · have h := d_f hk0 h
      by_cases hk1 : kx = 1
      · obtain rfl : kx = 1 := hk1
        have h := d_t (rfl : (1 : Nat) = 1) h
        refine vx_catch (E := dEx 1) (name := "java/lang/IllegalArgumentException") S.2.2.2.1 [{ startPc := 0, endPc := 11, handlerPc := 14, catchType := 21 }] { startPc := 0, endPc := 11, handlerPc := 18, catchType := 13 } [] (htab.trans rfl) (fun z hz => by simp only [List.mem_cons, List.not_mem_nil, or_false] at hz; subst hz; exact Or.inr ⟨by decide, "java/lang/IndexOutOfBoundsException", S.2.2.2.2 (.classLink RL 21 "java/lang/IndexOutOfBoundsException") (List.mem_of_getElem? (i := 1) rfl), hE.2.2.2.2.2.2.2.2.2 (dEx 1) (by decide) "java/lang/IndexOutOfBoundsException" (by decide) (by decide)⟩) (by decide) (by decide) (S.2.2.2.2 (.classLink RL 13 "java/lang/IllegalArgumentException") (List.mem_of_getElem? (i := 2) rfl)) (va_Nw.use rfl (hE.2.2.2.2.2.2.2.2.1 "java/lang/IllegalArgumentException" (by decide))) h1 h2 h3 ?_
        refine W.eq (g2 := F0 mth 18 ls [.ref q9]) rfl ?_
        refine lv_astore (lv' := [(6, .ref q9), (0, .ref (dad g p0)), (1, .int p1), (2, .int p2), (3, .int p3), (4, .int p4), (5, .int p5)]) S.1 S.2.1 dL_change_18 hl (by decide) rfl (fun ls hl => ?_)
        refine lv_iconst (v := 2) S.1 S.2.1 dL_change_20 (by decide) ?_
        obtain ⟨rfl, rfl⟩ := Prod.mk.inj (Option.some.inj h)
        exact dLti S hr hlk hE hP hS (Nat.le_of_ble_eq_true rfl) (Nat.le_of_ble_eq_true rfl) dL_change_21
      · have h := d_f hk1 h
        cases h
  · subst eo
    have h := d_s2 h
    refine lv_goto (tgt := 22) S.1 S.2.1 dL_change_11 (by decide) ?_
    refine lv_iconst (v := 0) S.1 S.2.1 dL_change_22 (by decide) ?_
    obtain ⟨rfl, rfl⟩ := Prod.mk.inj (Option.some.inj h)
    exact dLti S hr hlk hE hP hS (Nat.le_of_ble_eq_true rfl) (Nat.le_of_ble_eq_true rfl) dL_change_23
set_option maxRecDepth 20000 in
theorem ggL_cut_X11_cut : GoodIn wsL_cut wsX11_cut := goodIn_ca (goodIn_r _ [6, 7, 8, 9, 10, 11, 12, 13, 14, 15, 16, 17, 18, 19, 20, 21, 22, 23, 24, 25, 26, 27, 28, 29, 30, 31, 32, 33, 34, 35] (by decide +kernel) (by decide +kernel)) (goodIn_sub (fun _ h => List.mem_cons_of_mem _ (List.mem_append_right _ h)) (by decide +kernel))
set_option maxRecDepth 20000 in
theorem gL_cut_X11_cut : GoodIn wsL_cut (wsV RL 50 RX11 yX11_cut wsX11_cut) := goodIn_app (goodIn_of _ (by decide +kernel)) ggL_cut_X11_cut
theorem dL_cut_0 : decode cL_cut 0 = .ok (.aload_n 1, 1) := by decide +kernel
theorem dL_cut_1 : decode cL_cut 1 = .ok (.iconst 0, 1) := by decide +kernel
theorem dL_cut_2 : decode cL_cut 2 = .ok (.aload_n 0, 1) := by decide +kernel
theorem dL_cut_3 : decode cL_cut 3 = .ok (.invokevirtual 50, 3) := by decide +kernel
theorem dL_cut_6 : decode cL_cut 6 = .ok (.i2l, 1) := by decide +kernel
theorem dL_cut_7 : decode cL_cut 7 = .ok (.lastore, 1) := by decide +kernel
theorem dL_cut_8 : decode cL_cut 8 = .ok (.goto 6, 3) := by decide +kernel
theorem dL_cut_11 : decode cL_cut 11 = .ok (.astore_n 2, 1) := by decide +kernel
theorem dL_cut_12 : decode cL_cut 12 = .ok (.iconst 1, 1) := by decide +kernel
theorem dL_cut_13 : decode cL_cut 13 = .ok (.ireturn, 1) := by decide +kernel
theorem dL_cut_14 : decode cL_cut 14 = .ok (.iconst 0, 1) := by decide +kernel
theorem dL_cut_15 : decode cL_cut 15 = .ok (.ireturn, 1) := by decide +kernel
def fL_cut (m : dM) (p0 : Nat) (p1 : Nat) : Option (Int32 × dM) := dg (dkg p0 12) (dg (dkg p1 22) ((fX11_cut m p0).bind (fun q => dS q (fun x => dP2 x (fun kx mx => if kx = 2 then some (1, mx) else none)) (fun q => dP2 q (fun v4 m2 => dg (dIx 0 (dL p1)) (dlet (d2 m2 p1 (Int32.toNatClampNeg (0)) (Int32.toInt64 v4)) (fun m5 => some (0, m5))))))))
set_option maxHeartbeats 4000000 in
set_option maxRecDepth 100000 in
theorem kL_cut (l : Launch) (g : dG) (hst : l.stackTraces = false) {m : dM} {p0 : Nat} {p1 : Nat} {r0 : Int32} {m0 : dM} (h : fL_cut m p0 p1 = some (r0, m0)) : dLMet l g yL_cut wsL_cut 7 110 1 [.ref (dad g p0), .ref (dad g p1)] m r0 m0 := by
  refine dLof (cc := cL_cut) (maxL := 3) (ret := (some .int)) (hh := [(0, 8, 11, 15)]) _ (by decide) rfl (Nat.le_of_ble_eq_true rfl) ?_
  intro p e s mth below meth c S hr hlk htab hE H ls hP hS hl
  have S : CallFix p mth c cL_cut 3 s _ wsL_cut RL := S
  have hl : lv_has ls 3 [(0, .ref (dad g p0)), (1, .ref (dad g p1))] := hl
  obtain ⟨locs, hlocs⟩ : ∃ z : List Loc, z = [] := ⟨_, rfl⟩
  rw [← hlocs] at hS ⊢
  unfold fL_cut at h
  obtain ⟨k0, h⟩ := d_g h
  have k0 := d_k k0
  obtain ⟨k1, h⟩ := d_g h
  have k1 := d_k k1
  refine lv_aload_n S.1 S.2.1 dL_cut_0 rfl (lv_at hl 1 rfl) ?_
  refine lv_iconst (v := 0) S.1 S.2.1 dL_cut_1 (by decide) ?_
  refine lv_aload_n S.1 S.2.1 dL_cut_2 rfl (lv_at hl 0 rfl) ?_
  obtain ⟨q3, hc1, h⟩ := d_b h
  refine dxri (o := q3) (vx_runV (As := []) (rest := [.int 0, .ref (dad g p1)]) S (kX11_cut l g hst hc1) (cwV 0 S.2.2.2.2 gL_cut_X11_cut rfl rfl rfl ynX11_cut ⟨Nat.le_of_ble_eq_true rfl, Nat.le_of_ble_eq_true rfl⟩) (dpV hE hP hS (ci := 11) rfl (dat12 k0)) rfl rfl hl.1 rfl (lv_room (Nat.le_of_ble_eq_true rfl)) dL_cut_3 ⟨Nat.le_of_ble_eq_true rfl, Nat.le_of_ble_eq_true rfl⟩) hS (fun u q9 ce H locs eo hP hS h1 h2 h3 => ?_) (fun v4 m2 H locs eo hP hS => ?_)
  · subst eo
    have h := d_s1 h
    obtain ⟨kx, mx⟩ := u
    have h := d_p2 h
    have hP : va_P g.1 vwCl (dws g mx) H := hP
    have h3 : s.vm.findClass (dEx kx) = some ce.cls := h3
    by_cases hk0 : kx = 2
    · obtain rfl : kx = 2 := hk0
      have h := d_t (rfl : (2 : Nat) = 2) h
      refine vx_catch (E := dEx 2) (name := "java/lang/IllegalStateException") S.2.2.2.1 [] { startPc := 0, endPc := 8, handlerPc := 11, catchType := 15 } [] (htab.trans rfl) (fun z hz => by simp at hz) (by decide) (by decide) (S.2.2.2.2 (.classLink RL 15 "java/lang/IllegalStateException") (List.mem_of_getElem? (i := 1) rfl)) (va_Nw.use rfl (hE.2.2.2.2.2.2.2.2.1 "java/lang/IllegalStateException" (by decide))) h1 h2 h3 ?_
      refine W.eq (g2 := F0 mth 11 ls [.ref q9]) rfl ?_
      refine lv_astore_n (lv' := [(2, .ref q9), (0, .ref (dad g p0)), (1, .ref (dad g p1))]) S.1 S.2.1 dL_cut_11 rfl hl (by decide) rfl (fun ls hl => ?_)
      refine lv_iconst (v := 1) S.1 S.2.1 dL_cut_12 (by decide) ?_
      obtain ⟨rfl, rfl⟩ := Prod.mk.inj (Option.some.inj h)
      exact dLti S hr hlk hE hP hS (Nat.le_of_ble_eq_true rfl) (Nat.le_of_ble_eq_true rfl) dL_cut_13
    · have h := d_f hk0 h
      cases h
  · subst eo
    have h := d_s2 h
    have h := d_p2 h
    refine lv_i2l S.1 S.2.1 dL_cut_6 rfl ?_
    obtain ⟨hi, h⟩ := d_g h
    refine d_last S hE hP hS k1 hi dL_cut_7 (fun H locs hP hS => ?_)
    obtain ⟨m5, em5⟩ : ∃ z : dM, z = d2 m2 p1 (Int32.toNatClampNeg (0)) (Int32.toInt64 v4) := ⟨_, rfl⟩
    have h := d_let em5 h
    rw [← em5] at hP
    refine lv_goto (tgt := 14) S.1 S.2.1 dL_cut_8 (by decide) ?_
    refine lv_iconst (v := 0) S.1 S.2.1 dL_cut_14 (by decide) ?_
    obtain ⟨rfl, rfl⟩ := Prod.mk.inj (Option.some.inj h)
    exact dLti S hr hlk hE hP hS (Nat.le_of_ble_eq_true rfl) (Nat.le_of_ble_eq_true rfl) dL_cut_15
set_option maxRecDepth 20000 in
theorem ggL_place_X11_place : GoodIn wsL_place wsX11_place := goodIn_ca (goodIn_r _ [6, 7, 8, 9, 10, 5, 11, 12, 13, 14, 15, 16, 17, 18, 19, 20, 21, 22, 23, 24, 25, 26, 27, 28, 29, 30, 31, 32, 33, 34, 35, 36, 37, 38, 39, 40, 41, 42, 43, 44, 45, 46, 47, 48, 49, 50, 51, 52, 53, 54, 55, 56, 57, 58, 59, 60, 61, 62, 63, 64, 65, 66, 67, 68, 69, 70, 71, 72, 73, 74] (by decide +kernel) (by decide +kernel)) (goodIn_sub (fun _ h => List.mem_cons_of_mem _ (List.mem_append_right _ h)) (by decide +kernel))
set_option maxRecDepth 20000 in
theorem gL_place_X11_place : GoodIn wsL_place (wsV RL 54 RX11 yX11_place wsX11_place) := goodIn_app (goodIn_of _ (by decide +kernel)) ggL_place_X11_place
theorem dL_place_0 : decode cL_place 0 = .ok (.aload_n 3, 1) := by decide +kernel
theorem dL_place_1 : decode cL_place 1 = .ok (.iconst 0, 1) := by decide +kernel
theorem dL_place_2 : decode cL_place 2 = .ok (.aload_n 0, 1) := by decide +kernel
theorem dL_place_3 : decode cL_place 3 = .ok (.iload_n 1, 1) := by decide +kernel
theorem dL_place_4 : decode cL_place 4 = .ok (.iload_n 2, 1) := by decide +kernel
theorem dL_place_5 : decode cL_place 5 = .ok (.invokevirtual 54, 3) := by decide +kernel
theorem dL_place_8 : decode cL_place 8 = .ok (.i2l, 1) := by decide +kernel
theorem dL_place_9 : decode cL_place 9 = .ok (.lastore, 1) := by decide +kernel
theorem dL_place_10 : decode cL_place 10 = .ok (.goto 7, 3) := by decide +kernel
theorem dL_place_13 : decode cL_place 13 = .ok (.astore 4, 2) := by decide +kernel
theorem dL_place_15 : decode cL_place 15 = .ok (.iconst 1, 1) := by decide +kernel
theorem dL_place_16 : decode cL_place 16 = .ok (.ireturn, 1) := by decide +kernel
theorem dL_place_17 : decode cL_place 17 = .ok (.iconst 0, 1) := by decide +kernel
theorem dL_place_18 : decode cL_place 18 = .ok (.ireturn, 1) := by decide +kernel
def fL_place (m : dM) (p0 : Nat) (p1 : Int32) (p2 : Int32) (p3 : Nat) : Option (Int32 × dM) := dg (dkg p0 12) (dg (dkg p3 22) ((fX11_place m p0 p1 p2).bind (fun q => dS q (fun x => dP2 x (fun kx mx => if kx = 3 then some (1, mx) else none)) (fun q => dP2 q (fun v4 m2 => dg (dIx 0 (dL p3)) (dlet (d2 m2 p3 (Int32.toNatClampNeg (0)) (Int32.toInt64 v4)) (fun m5 => some (0, m5))))))))
set_option maxHeartbeats 4000000 in
set_option maxRecDepth 100000 in
theorem kL_place (l : Launch) (g : dG) (hst : l.stackTraces = false) {m : dM} {p0 : Nat} {p1 : Int32} {p2 : Int32} {p3 : Nat} {r0 : Int32} {m0 : dM} (h : fL_place m p0 p1 p2 p3 = some (r0, m0)) : dLMet l g yL_place wsL_place 9 154 2 [.ref (dad g p0), .int p1, .int p2, .ref (dad g p3)] m r0 m0 := by
  refine dLof (cc := cL_place) (maxL := 5) (ret := (some .int)) (hh := [(0, 10, 13, 21)]) _ (by decide) rfl (Nat.le_of_ble_eq_true rfl) ?_
  intro p e s mth below meth c S hr hlk htab hE H ls hP hS hl
  have S : CallFix p mth c cL_place 5 s _ wsL_place RL := S
  have hl : lv_has ls 5 [(0, .ref (dad g p0)), (1, .int p1), (2, .int p2), (3, .ref (dad g p3))] := hl
  obtain ⟨locs, hlocs⟩ : ∃ z : List Loc, z = [] := ⟨_, rfl⟩
  rw [← hlocs] at hS ⊢
  unfold fL_place at h
  obtain ⟨k0, h⟩ := d_g h
  have k0 := d_k k0
  obtain ⟨k3, h⟩ := d_g h
  have k3 := d_k k3
  refine lv_aload_n S.1 S.2.1 dL_place_0 rfl (lv_at hl 3 rfl) ?_
  refine lv_iconst (v := 0) S.1 S.2.1 dL_place_1 (by decide) ?_
  refine lv_aload_n S.1 S.2.1 dL_place_2 rfl (lv_at hl 0 rfl) ?_
  refine lv_iload_n S.1 S.2.1 dL_place_3 rfl (lv_at hl 1 rfl) ?_
  refine lv_iload_n S.1 S.2.1 dL_place_4 rfl (lv_at hl 2 rfl) ?_
  obtain ⟨q3, hc1, h⟩ := d_b h
  refine dxri (o := q3) (vx_runV (As := [.int p1, .int p2]) (rest := [.int 0, .ref (dad g p3)]) S (kX11_place l g hst hc1) (cwV 2 S.2.2.2.2 gL_place_X11_place rfl rfl rfl ynX11_place ⟨Nat.le_of_ble_eq_true rfl, Nat.le_of_ble_eq_true rfl⟩) (dpV hE hP hS (ci := 11) rfl (dat12 k0)) rfl rfl hl.1 rfl (lv_room (Nat.le_of_ble_eq_true rfl)) dL_place_5 ⟨Nat.le_of_ble_eq_true rfl, Nat.le_of_ble_eq_true rfl⟩) hS (fun u q9 ce H locs eo hP hS h1 h2 h3 => ?_) (fun v4 m2 H locs eo hP hS => ?_)
  · subst eo
    have h := d_s1 h
    obtain ⟨kx, mx⟩ := u
    have h := d_p2 h
    have hP : va_P g.1 vwCl (dws g mx) H := hP
    have h3 : s.vm.findClass (dEx kx) = some ce.cls := h3
    by_cases hk0 : kx = 3
    · obtain rfl : kx = 3 := hk0
      have h := d_t (rfl : (3 : Nat) = 3) h
      refine vx_catch (E := dEx 3) (name := "java/lang/IndexOutOfBoundsException") S.2.2.2.1 [] { startPc := 0, endPc := 10, handlerPc := 13, catchType := 21 } [] (htab.trans rfl) (fun z hz => by simp at hz) (by decide) (by decide) (S.2.2.2.2 (.classLink RL 21 "java/lang/IndexOutOfBoundsException") (List.mem_of_getElem? (i := 1) rfl)) (va_Nw.use rfl (hE.2.2.2.2.2.2.2.2.1 "java/lang/IndexOutOfBoundsException" (by decide))) h1 h2 h3 ?_
      refine W.eq (g2 := F0 mth 13 ls [.ref q9]) rfl ?_
      refine lv_astore (lv' := [(4, .ref q9), (0, .ref (dad g p0)), (1, .int p1), (2, .int p2), (3, .ref (dad g p3))]) S.1 S.2.1 dL_place_13 hl (by decide) rfl (fun ls hl => ?_)
      refine lv_iconst (v := 1) S.1 S.2.1 dL_place_15 (by decide) ?_
      obtain ⟨rfl, rfl⟩ := Prod.mk.inj (Option.some.inj h)
      exact dLti S hr hlk hE hP hS (Nat.le_of_ble_eq_true rfl) (Nat.le_of_ble_eq_true rfl) dL_place_16
    · have h := d_f hk0 h
      cases h
  · subst eo
    have h := d_s2 h
    have h := d_p2 h
    refine lv_i2l S.1 S.2.1 dL_place_8 rfl ?_
    obtain ⟨hi, h⟩ := d_g h
    refine d_last S hE hP hS k3 hi dL_place_9 (fun H locs hP hS => ?_)
    obtain ⟨m5, em5⟩ : ∃ z : dM, z = d2 m2 p3 (Int32.toNatClampNeg (0)) (Int32.toInt64 v4) := ⟨_, rfl⟩
    have h := d_let em5 h
    rw [← em5] at hP
    refine lv_goto (tgt := 17) S.1 S.2.1 dL_place_10 (by decide) ?_
    refine lv_iconst (v := 0) S.1 S.2.1 dL_place_17 (by decide) ?_
    obtain ⟨rfl, rfl⟩ := Prod.mk.inj (Option.some.inj h)
    exact dLti S hr hlk hE hP hS (Nat.le_of_ble_eq_true rfl) (Nat.le_of_ble_eq_true rfl) dL_place_18
set_option maxRecDepth 20000 in
theorem ggL_walking_X11_walking : GoodIn wsL_walking wsX11_walking := goodIn_ca (goodIn_r _ [6, 7, 8, 9, 10, 11, 5, 12, 13, 14, 15, 16, 17, 18, 19, 20, 21, 22, 23, 24, 25, 26, 27, 28, 29, 30, 31, 32, 33, 34, 35, 36, 37, 38, 39, 40, 41, 42, 43, 44, 45, 46, 47, 48, 49, 50, 51, 52, 53, 54, 55, 56, 57, 58, 59, 60, 61, 62, 63, 64, 65, 66, 67, 68, 69, 70, 71, 72, 73, 74, 75, 76, 77, 78, 79, 80, 81, 82] (by decide +kernel) (by decide +kernel)) (goodIn_sub (fun _ h => List.mem_cons_of_mem _ (List.mem_append_right _ h)) (by decide +kernel))
set_option maxRecDepth 20000 in
theorem gL_walking_X11_walking : GoodIn wsL_walking (wsV RL 57 RX11 yX11_walking wsX11_walking) := goodIn_app (goodIn_of _ (by decide +kernel)) ggL_walking_X11_walking
theorem dL_walking_0 : decode cL_walking 0 = .ok (.aload_n 2, 1) := by decide +kernel
theorem dL_walking_1 : decode cL_walking 1 = .ok (.iconst 0, 1) := by decide +kernel
theorem dL_walking_2 : decode cL_walking 2 = .ok (.aload_n 0, 1) := by decide +kernel
theorem dL_walking_3 : decode cL_walking 3 = .ok (.iload_n 1, 1) := by decide +kernel
theorem dL_walking_4 : decode cL_walking 4 = .ok (.invokevirtual 57, 3) := by decide +kernel
theorem dL_walking_7 : decode cL_walking 7 = .ok (.lastore, 1) := by decide +kernel
theorem dL_walking_8 : decode cL_walking 8 = .ok (.goto 6, 3) := by decide +kernel
theorem dL_walking_11 : decode cL_walking 11 = .ok (.astore_n 3, 1) := by decide +kernel
theorem dL_walking_12 : decode cL_walking 12 = .ok (.iconst 1, 1) := by decide +kernel
theorem dL_walking_13 : decode cL_walking 13 = .ok (.ireturn, 1) := by decide +kernel
theorem dL_walking_14 : decode cL_walking 14 = .ok (.iconst 0, 1) := by decide +kernel
theorem dL_walking_15 : decode cL_walking 15 = .ok (.ireturn, 1) := by decide +kernel
def fL_walking (m : dM) (p0 : Nat) (p1 : Int32) (p2 : Nat) : Option (Int32 × dM) := dg (dkg p0 12) (dg (dkg p2 22) ((fX11_walking m p0 p1).bind (fun q => dS q (fun x => dP2 x (fun kx mx => if kx = 3 then some (1, mx) else none)) (fun q => dP2 q (fun v4 m2 => dg (dIx 0 (dL p2)) (dlet (d2 m2 p2 (Int32.toNatClampNeg (0)) v4) (fun m5 => some (0, m5))))))))
set_option maxHeartbeats 4000000 in
set_option maxRecDepth 100000 in
theorem kL_walking (l : Launch) (g : dG) (hst : l.stackTraces = false) {m : dM} {p0 : Nat} {p1 : Int32} {p2 : Nat} {r0 : Int32} {m0 : dM} (h : fL_walking m p0 p1 p2 = some (r0, m0)) : dLMet l g yL_walking wsL_walking 9 153 1 [.ref (dad g p0), .int p1, .ref (dad g p2)] m r0 m0 := by
  refine dLof (cc := cL_walking) (maxL := 4) (ret := (some .int)) (hh := [(0, 8, 11, 21)]) _ (by decide) rfl (Nat.le_of_ble_eq_true rfl) ?_
  intro p e s mth below meth c S hr hlk htab hE H ls hP hS hl
  have S : CallFix p mth c cL_walking 4 s _ wsL_walking RL := S
  have hl : lv_has ls 4 [(0, .ref (dad g p0)), (1, .int p1), (2, .ref (dad g p2))] := hl
  obtain ⟨locs, hlocs⟩ : ∃ z : List Loc, z = [] := ⟨_, rfl⟩
  rw [← hlocs] at hS ⊢
  unfold fL_walking at h
  obtain ⟨k0, h⟩ := d_g h
  have k0 := d_k k0
  obtain ⟨k2, h⟩ := d_g h
  have k2 := d_k k2
  refine lv_aload_n S.1 S.2.1 dL_walking_0 rfl (lv_at hl 2 rfl) ?_
  refine lv_iconst (v := 0) S.1 S.2.1 dL_walking_1 (by decide) ?_
  refine lv_aload_n S.1 S.2.1 dL_walking_2 rfl (lv_at hl 0 rfl) ?_
  refine lv_iload_n S.1 S.2.1 dL_walking_3 rfl (lv_at hl 1 rfl) ?_
  obtain ⟨q3, hc1, h⟩ := d_b h
  refine dxrj (o := q3) (vx_runV (As := [.int p1]) (rest := [.int 0, .ref (dad g p2)]) S (kX11_walking l g hst hc1) (cwV 1 S.2.2.2.2 gL_walking_X11_walking rfl rfl rfl ynX11_walking ⟨Nat.le_of_ble_eq_true rfl, Nat.le_of_ble_eq_true rfl⟩) (dpV hE hP hS (ci := 11) rfl (dat12 k0)) rfl rfl hl.1 rfl (lv_room (Nat.le_of_ble_eq_true rfl)) dL_walking_4 ⟨Nat.le_of_ble_eq_true rfl, Nat.le_of_ble_eq_true rfl⟩) hS (fun u q9 ce H locs eo hP hS h1 h2 h3 => ?_) (fun v4 m2 H locs eo hP hS => ?_)
  · subst eo
    have h := d_s1 h
    obtain ⟨kx, mx⟩ := u
    have h := d_p2 h
    have hP : va_P g.1 vwCl (dws g mx) H := hP
    have h3 : s.vm.findClass (dEx kx) = some ce.cls := h3
    by_cases hk0 : kx = 3
    · obtain rfl : kx = 3 := hk0
      have h := d_t (rfl : (3 : Nat) = 3) h
      refine vx_catch (E := dEx 3) (name := "java/lang/IndexOutOfBoundsException") S.2.2.2.1 [] { startPc := 0, endPc := 8, handlerPc := 11, catchType := 21 } [] (htab.trans rfl) (fun z hz => by simp at hz) (by decide) (by decide) (S.2.2.2.2 (.classLink RL 21 "java/lang/IndexOutOfBoundsException") (List.mem_of_getElem? (i := 1) rfl)) (va_Nw.use rfl (hE.2.2.2.2.2.2.2.2.1 "java/lang/IndexOutOfBoundsException" (by decide))) h1 h2 h3 ?_
      refine W.eq (g2 := F0 mth 11 ls [.ref q9]) rfl ?_
      refine lv_astore_n (lv' := [(3, .ref q9), (0, .ref (dad g p0)), (1, .int p1), (2, .ref (dad g p2))]) S.1 S.2.1 dL_walking_11 rfl hl (by decide) rfl (fun ls hl => ?_)
      refine lv_iconst (v := 1) S.1 S.2.1 dL_walking_12 (by decide) ?_
      obtain ⟨rfl, rfl⟩ := Prod.mk.inj (Option.some.inj h)
      exact dLti S hr hlk hE hP hS (Nat.le_of_ble_eq_true rfl) (Nat.le_of_ble_eq_true rfl) dL_walking_13
    · have h := d_f hk0 h
      cases h
  · subst eo
    have h := d_s2 h
    have h := d_p2 h
    obtain ⟨hi, h⟩ := d_g h
    refine d_last S hE hP hS k2 hi dL_walking_7 (fun H locs hP hS => ?_)
    obtain ⟨m5, em5⟩ : ∃ z : dM, z = d2 m2 p2 (Int32.toNatClampNeg (0)) v4 := ⟨_, rfl⟩
    have h := d_let em5 h
    rw [← em5] at hP
    refine lv_goto (tgt := 14) S.1 S.2.1 dL_walking_8 (by decide) ?_
    refine lv_iconst (v := 0) S.1 S.2.1 dL_walking_14 (by decide) ?_
    obtain ⟨rfl, rfl⟩ := Prod.mk.inj (Option.some.inj h)
    exact dLti S hr hlk hE hP hS (Nat.le_of_ble_eq_true rfl) (Nat.le_of_ble_eq_true rfl) dL_walking_15
set_option maxRecDepth 20000 in
theorem ggL_at_X11_at : GoodIn wsL_at wsX11_at := goodIn_ca (goodIn_ca (goodIn_r _ [7, 8, 9, 10, 11, 6, 12, 13, 14, 15, 16, 17, 18, 19, 20, 21, 22, 23, 24, 25, 26, 27, 28, 29, 30, 31, 32, 33, 34, 35, 36, 37, 38, 39, 40, 41, 42, 43, 44, 45, 46, 47, 48, 49, 50, 51, 52, 53, 54, 55, 56, 57, 58, 59, 60, 61, 62, 63, 64, 65, 66, 67, 68, 69, 70, 71, 72, 73, 74, 75, 76, 77, 78, 79, 80, 81, 82, 83, 84, 85, 86, 87, 88, 89, 90, 91, 92, 93, 94, 95, 96, 97, 98, 99, 100, 101, 102, 103, 104, 105, 106, 107, 108, 109] (by decide +kernel) (by decide +kernel)) (goodIn_sub (fun _ h => List.mem_cons_of_mem _ (List.mem_append_left _ (List.mem_append_right _ h))) (by decide +kernel))) (goodIn_sub (fun _ h => List.mem_cons_of_mem _ (List.mem_append_right _ h)) (by decide +kernel))
set_option maxRecDepth 20000 in
theorem gL_at_X11_at : GoodIn wsL_at (wsV RL 61 RX11 yX11_at wsX11_at) := goodIn_app (goodIn_of _ (by decide +kernel)) ggL_at_X11_at
theorem dL_at_0 : decode cL_at 0 = .ok (.aload 4, 2) := by decide +kernel
theorem dL_at_2 : decode cL_at 2 = .ok (.iconst 0, 1) := by decide +kernel
theorem dL_at_3 : decode cL_at 3 = .ok (.aload_n 0, 1) := by decide +kernel
theorem dL_at_4 : decode cL_at 4 = .ok (.iload_n 1, 1) := by decide +kernel
theorem dL_at_5 : decode cL_at 5 = .ok (.iload_n 2, 1) := by decide +kernel
theorem dL_at_6 : decode cL_at 6 = .ok (.iload_n 3, 1) := by decide +kernel
theorem dL_at_7 : decode cL_at 7 = .ok (.invokevirtual 61, 3) := by decide +kernel
theorem dL_at_10 : decode cL_at 10 = .ok (.i2l, 1) := by decide +kernel
theorem dL_at_11 : decode cL_at 11 = .ok (.lastore, 1) := by decide +kernel
theorem dL_at_12 : decode cL_at 12 = .ok (.goto 11, 3) := by decide +kernel
theorem dL_at_15 : decode cL_at 15 = .ok (.astore 5, 2) := by decide +kernel
theorem dL_at_17 : decode cL_at 17 = .ok (.iconst 1, 1) := by decide +kernel
theorem dL_at_18 : decode cL_at 18 = .ok (.ireturn, 1) := by decide +kernel
theorem dL_at_19 : decode cL_at 19 = .ok (.astore 5, 2) := by decide +kernel
theorem dL_at_21 : decode cL_at 21 = .ok (.iconst 2, 1) := by decide +kernel
theorem dL_at_22 : decode cL_at 22 = .ok (.ireturn, 1) := by decide +kernel
theorem dL_at_23 : decode cL_at 23 = .ok (.iconst 0, 1) := by decide +kernel
theorem dL_at_24 : decode cL_at 24 = .ok (.ireturn, 1) := by decide +kernel
def fL_at (m : dM) (p0 : Nat) (p1 : Int32) (p2 : Int32) (p3 : Int32) (p4 : Nat) : Option (Int32 × dM) := dg (dkg p0 12) (dg (dkg p4 22) ((fX11_at m p0 p1 p2 p3).bind (fun q => dS q (fun x => dP2 x (fun kx mx => if kx = 3 then some (1, mx) else if kx = 1 then some (2, mx) else none)) (fun q => dP2 q (fun v4 m2 => dg (dIx 0 (dL p4)) (dlet (d2 m2 p4 (Int32.toNatClampNeg (0)) (Int32.toInt64 v4)) (fun m5 => some (0, m5))))))))
set_option maxHeartbeats 4000000 in
set_option maxRecDepth 100000 in
theorem kL_at (l : Launch) (g : dG) (hst : l.stackTraces = false) {m : dM} {p0 : Nat} {p1 : Int32} {p2 : Int32} {p3 : Int32} {p4 : Nat} {r0 : Int32} {m0 : dM} (h : fL_at m p0 p1 p2 p3 p4 = some (r0, m0)) : dLMet l g yL_at wsL_at 9 156 3 [.ref (dad g p0), .int p1, .int p2, .int p3, .ref (dad g p4)] m r0 m0 := by
  refine dLof (cc := cL_at) (maxL := 6) (ret := (some .int)) (hh := [(0, 12, 15, 21), (0, 12, 19, 13)]) _ (by decide) rfl (Nat.le_of_ble_eq_true rfl) ?_
  intro p e s mth below meth c S hr hlk htab hE H ls hP hS hl
  have S : CallFix p mth c cL_at 6 s _ wsL_at RL := S
  have hl : lv_has ls 6 [(0, .ref (dad g p0)), (1, .int p1), (2, .int p2), (3, .int p3), (4, .ref (dad g p4))] := hl
  obtain ⟨locs, hlocs⟩ : ∃ z : List Loc, z = [] := ⟨_, rfl⟩
  rw [← hlocs] at hS ⊢
  unfold fL_at at h
  obtain ⟨k0, h⟩ := d_g h
  have k0 := d_k k0
  obtain ⟨k4, h⟩ := d_g h
  have k4 := d_k k4
  refine lv_aload S.1 S.2.1 dL_at_0 (lv_at hl 4 rfl) ?_
  refine lv_iconst (v := 0) S.1 S.2.1 dL_at_2 (by decide) ?_
  refine lv_aload_n S.1 S.2.1 dL_at_3 rfl (lv_at hl 0 rfl) ?_
  refine lv_iload_n S.1 S.2.1 dL_at_4 rfl (lv_at hl 1 rfl) ?_
  refine lv_iload_n S.1 S.2.1 dL_at_5 rfl (lv_at hl 2 rfl) ?_
  refine lv_iload_n S.1 S.2.1 dL_at_6 rfl (lv_at hl 3 rfl) ?_
  obtain ⟨q3, hc1, h⟩ := d_b h
  refine dxri (o := q3) (vx_runV (As := [.int p1, .int p2, .int p3]) (rest := [.int 0, .ref (dad g p4)]) S (kX11_at l g hst hc1) (cwV 3 S.2.2.2.2 gL_at_X11_at rfl rfl rfl ynX11_at ⟨Nat.le_of_ble_eq_true rfl, Nat.le_of_ble_eq_true rfl⟩) (dpV hE hP hS (ci := 11) rfl (dat12 k0)) rfl rfl hl.1 rfl (lv_room (Nat.le_of_ble_eq_true rfl)) dL_at_7 ⟨Nat.le_of_ble_eq_true rfl, Nat.le_of_ble_eq_true rfl⟩) hS (fun u q9 ce H locs eo hP hS h1 h2 h3 => ?_) (fun v4 m2 H locs eo hP hS => ?_)
  · subst eo
    have h := d_s1 h
    obtain ⟨kx, mx⟩ := u
    have h := d_p2 h
    have hP : va_P g.1 vwCl (dws g mx) H := hP
    have h3 : s.vm.findClass (dEx kx) = some ce.cls := h3
    by_cases hk0 : kx = 3
    · obtain rfl : kx = 3 := hk0
      have h := d_t (rfl : (3 : Nat) = 3) h
      refine vx_catch (E := dEx 3) (name := "java/lang/IndexOutOfBoundsException") S.2.2.2.1 [] { startPc := 0, endPc := 12, handlerPc := 15, catchType := 21 } [{ startPc := 0, endPc := 12, handlerPc := 19, catchType := 13 }] (htab.trans rfl) (fun z hz => by simp at hz) (by decide) (by decide) (S.2.2.2.2 (.classLink RL 21 "java/lang/IndexOutOfBoundsException") (List.mem_of_getElem? (i := 1) rfl)) (va_Nw.use rfl (hE.2.2.2.2.2.2.2.2.1 "java/lang/IndexOutOfBoundsException" (by decide))) h1 h2 h3 ?_
      refine W.eq (g2 := F0 mth 15 ls [.ref q9]) rfl ?_
      refine lv_astore (lv' := [(5, .ref q9), (0, .ref (dad g p0)), (1, .int p1), (2, .int p2), (3, .int p3), (4, .ref (dad g p4))]) S.1 S.2.1 dL_at_15 hl (by decide) rfl (fun ls hl => ?_)
      refine lv_iconst (v := 1) S.1 S.2.1 dL_at_17 (by decide) ?_
      obtain ⟨rfl, rfl⟩ := Prod.mk.inj (Option.some.inj h)
      exact dLti S hr hlk hE hP hS (Nat.le_of_ble_eq_true rfl) (Nat.le_of_ble_eq_true rfl) dL_at_18
    · have h := d_f hk0 h
      by_cases hk1 : kx = 1
      · obtain rfl : kx = 1 := hk1
        have h := d_t (rfl : (1 : Nat) = 1) h
        refine vx_catch (E := dEx 1) (name := "java/lang/IllegalArgumentException") S.2.2.2.1 [{ startPc := 0, endPc := 12, handlerPc := 15, catchType := 21 }] { startPc := 0, endPc := 12, handlerPc := 19, catchType := 13 } [] (htab.trans rfl) (fun z hz => by simp only [List.mem_cons, List.not_mem_nil, or_false] at hz; subst hz; exact Or.inr ⟨by decide, "java/lang/IndexOutOfBoundsException", S.2.2.2.2 (.classLink RL 21 "java/lang/IndexOutOfBoundsException") (List.mem_of_getElem? (i := 1) rfl), hE.2.2.2.2.2.2.2.2.2 (dEx 1) (by decide) "java/lang/IndexOutOfBoundsException" (by decide) (by decide)⟩) (by decide) (by decide) (S.2.2.2.2 (.classLink RL 13 "java/lang/IllegalArgumentException") (List.mem_of_getElem? (i := 2) rfl)) (va_Nw.use rfl (hE.2.2.2.2.2.2.2.2.1 "java/lang/IllegalArgumentException" (by decide))) h1 h2 h3 ?_
        refine W.eq (g2 := F0 mth 19 ls [.ref q9]) rfl ?_
        refine lv_astore (lv' := [(5, .ref q9), (0, .ref (dad g p0)), (1, .int p1), (2, .int p2), (3, .int p3), (4, .ref (dad g p4))]) S.1 S.2.1 dL_at_19 hl (by decide) rfl (fun ls hl => ?_)
        refine lv_iconst (v := 2) S.1 S.2.1 dL_at_21 (by decide) ?_
        obtain ⟨rfl, rfl⟩ := Prod.mk.inj (Option.some.inj h)
        exact dLti S hr hlk hE hP hS (Nat.le_of_ble_eq_true rfl) (Nat.le_of_ble_eq_true rfl) dL_at_22
      · have h := d_f hk1 h
        cases h
  · subst eo
    have h := d_s2 h
    have h := d_p2 h
    refine lv_i2l S.1 S.2.1 dL_at_10 rfl ?_
    obtain ⟨hi, h⟩ := d_g h
    refine d_last S hE hP hS k4 hi dL_at_11 (fun H locs hP hS => ?_)
    obtain ⟨m5, em5⟩ : ∃ z : dM, z = d2 m2 p4 (Int32.toNatClampNeg (0)) (Int32.toInt64 v4) := ⟨_, rfl⟩
    have h := d_let em5 h
    rw [← em5] at hP
    refine lv_goto (tgt := 23) S.1 S.2.1 dL_at_12 (by decide) ?_
    refine lv_iconst (v := 0) S.1 S.2.1 dL_at_23 (by decide) ?_
    obtain ⟨rfl, rfl⟩ := Prod.mk.inj (Option.some.inj h)
    exact dLti S hr hlk hE hP hS (Nat.le_of_ble_eq_true rfl) (Nat.le_of_ble_eq_true rfl) dL_at_24
set_option maxRecDepth 20000 in
theorem ggL_fault_X11_fault : GoodIn wsL_fault wsX11_fault := goodIn_ca (goodIn_ca (goodIn_r _ [7, 8, 9, 10, 11, 12, 13, 6, 14, 15, 16, 17, 18, 19, 20, 21, 22, 23, 24, 25, 26, 27, 28, 29, 30, 31, 32, 33, 34, 35, 36, 37, 38, 39, 40, 41, 42, 43, 44, 45, 46, 47, 48, 49, 50, 51, 52, 53, 54, 55, 56, 57, 58, 59, 60, 61, 62, 63, 64, 65, 66, 67, 68, 69, 70, 71, 72, 73, 74, 75, 76, 77, 78, 79, 80, 81, 82, 83, 84, 85, 86, 87, 88, 89, 90, 91, 92, 93, 94, 95, 96, 97, 98, 99, 100, 101, 102, 103, 104, 105, 106, 107, 108, 109, 110, 111, 112, 113, 114, 115, 116, 117, 118, 119, 120, 121, 122, 123, 124, 125, 126, 127, 128, 129, 130, 131, 132, 133, 134, 135, 136, 137, 138, 139, 140, 141, 142, 143, 144, 145, 146, 147, 148, 149, 150, 151, 152, 153, 154, 155, 156, 157, 158, 159, 160, 161, 162, 163, 164, 165, 166, 167, 168, 169, 170, 171, 172, 173, 174, 175, 176, 177, 178, 179, 180, 181, 182, 183, 184, 185, 186, 187, 188, 189, 190, 191, 192, 193, 194, 195, 196, 197, 198, 199, 200, 201, 202, 203, 204, 205, 206, 207, 208] (by decide +kernel) (by decide +kernel)) (goodIn_sub (fun _ h => List.mem_cons_of_mem _ (List.mem_append_left _ (List.mem_append_right _ h))) (by decide +kernel))) (goodIn_sub (fun _ h => List.mem_cons_of_mem _ (List.mem_append_right _ h)) (by decide +kernel))
set_option maxRecDepth 20000 in
theorem gL_fault_X11_fault : GoodIn wsL_fault (wsV RL 64 RX11 yX11_fault wsX11_fault) := goodIn_app (goodIn_of _ (by decide +kernel)) ggL_fault_X11_fault
theorem dL_fault_0 : decode cL_fault 0 = .ok (.aload_n 3, 1) := by decide +kernel
theorem dL_fault_1 : decode cL_fault 1 = .ok (.iconst 0, 1) := by decide +kernel
theorem dL_fault_2 : decode cL_fault 2 = .ok (.aload_n 0, 1) := by decide +kernel
theorem dL_fault_3 : decode cL_fault 3 = .ok (.iload_n 1, 1) := by decide +kernel
theorem dL_fault_4 : decode cL_fault 4 = .ok (.iload_n 2, 1) := by decide +kernel
theorem dL_fault_5 : decode cL_fault 5 = .ok (.invokevirtual 64, 3) := by decide +kernel
theorem dL_fault_8 : decode cL_fault 8 = .ok (.i2l, 1) := by decide +kernel
theorem dL_fault_9 : decode cL_fault 9 = .ok (.lastore, 1) := by decide +kernel
theorem dL_fault_10 : decode cL_fault 10 = .ok (.goto 11, 3) := by decide +kernel
theorem dL_fault_13 : decode cL_fault 13 = .ok (.astore 4, 2) := by decide +kernel
theorem dL_fault_15 : decode cL_fault 15 = .ok (.iconst 1, 1) := by decide +kernel
theorem dL_fault_16 : decode cL_fault 16 = .ok (.ireturn, 1) := by decide +kernel
theorem dL_fault_17 : decode cL_fault 17 = .ok (.astore 4, 2) := by decide +kernel
theorem dL_fault_19 : decode cL_fault 19 = .ok (.iconst 2, 1) := by decide +kernel
theorem dL_fault_20 : decode cL_fault 20 = .ok (.ireturn, 1) := by decide +kernel
theorem dL_fault_21 : decode cL_fault 21 = .ok (.iconst 0, 1) := by decide +kernel
theorem dL_fault_22 : decode cL_fault 22 = .ok (.ireturn, 1) := by decide +kernel
def fL_fault (m : dM) (p0 : Nat) (p1 : Int32) (p2 : Int32) (p3 : Nat) : Option (Int32 × dM) := dg (dkg p0 12) (dg (dkg p3 22) ((fX11_fault m p0 p1 p2).bind (fun q => dS q (fun x => dP2 x (fun kx mx => if kx = 3 then some (1, mx) else if kx = 1 then some (2, mx) else none)) (fun q => dP2 q (fun v4 m2 => dg (dIx 0 (dL p3)) (dlet (d2 m2 p3 (Int32.toNatClampNeg (0)) (Int32.toInt64 v4)) (fun m5 => some (0, m5))))))))
set_option maxHeartbeats 4000000 in
set_option maxRecDepth 100000 in
theorem kL_fault (l : Launch) (g : dG) (hst : l.stackTraces = false) {m : dM} {p0 : Nat} {p1 : Int32} {p2 : Int32} {p3 : Nat} {r0 : Int32} {m0 : dM} (h : fL_fault m p0 p1 p2 p3 = some (r0, m0)) : dLMet l g yL_fault wsL_fault 9 168 2 [.ref (dad g p0), .int p1, .int p2, .ref (dad g p3)] m r0 m0 := by
  refine dLof (cc := cL_fault) (maxL := 5) (ret := (some .int)) (hh := [(0, 10, 13, 21), (0, 10, 17, 13)]) _ (by decide) rfl (Nat.le_of_ble_eq_true rfl) ?_
  intro p e s mth below meth c S hr hlk htab hE H ls hP hS hl
  have S : CallFix p mth c cL_fault 5 s _ wsL_fault RL := S
  have hl : lv_has ls 5 [(0, .ref (dad g p0)), (1, .int p1), (2, .int p2), (3, .ref (dad g p3))] := hl
  obtain ⟨locs, hlocs⟩ : ∃ z : List Loc, z = [] := ⟨_, rfl⟩
  rw [← hlocs] at hS ⊢
  unfold fL_fault at h
  obtain ⟨k0, h⟩ := d_g h
  have k0 := d_k k0
  obtain ⟨k3, h⟩ := d_g h
  have k3 := d_k k3
  refine lv_aload_n S.1 S.2.1 dL_fault_0 rfl (lv_at hl 3 rfl) ?_
  refine lv_iconst (v := 0) S.1 S.2.1 dL_fault_1 (by decide) ?_
  refine lv_aload_n S.1 S.2.1 dL_fault_2 rfl (lv_at hl 0 rfl) ?_
  refine lv_iload_n S.1 S.2.1 dL_fault_3 rfl (lv_at hl 1 rfl) ?_
  refine lv_iload_n S.1 S.2.1 dL_fault_4 rfl (lv_at hl 2 rfl) ?_
  obtain ⟨q3, hc1, h⟩ := d_b h
  refine dxri (o := q3) (vx_runV (As := [.int p1, .int p2]) (rest := [.int 0, .ref (dad g p3)]) S (kX11_fault l g hst hc1) (cwV 2 S.2.2.2.2 gL_fault_X11_fault rfl rfl rfl ynX11_fault ⟨Nat.le_of_ble_eq_true rfl, Nat.le_of_ble_eq_true rfl⟩) (dpV hE hP hS (ci := 11) rfl (dat12 k0)) rfl rfl hl.1 rfl (lv_room (Nat.le_of_ble_eq_true rfl)) dL_fault_5 ⟨Nat.le_of_ble_eq_true rfl, Nat.le_of_ble_eq_true rfl⟩) hS (fun u q9 ce H locs eo hP hS h1 h2 h3 => ?_) (fun v4 m2 H locs eo hP hS => ?_)
  · subst eo
    have h := d_s1 h
    obtain ⟨kx, mx⟩ := u
    have h := d_p2 h
    have hP : va_P g.1 vwCl (dws g mx) H := hP
    have h3 : s.vm.findClass (dEx kx) = some ce.cls := h3
    by_cases hk0 : kx = 3
    · obtain rfl : kx = 3 := hk0
      have h := d_t (rfl : (3 : Nat) = 3) h
      refine vx_catch (E := dEx 3) (name := "java/lang/IndexOutOfBoundsException") S.2.2.2.1 [] { startPc := 0, endPc := 10, handlerPc := 13, catchType := 21 } [{ startPc := 0, endPc := 10, handlerPc := 17, catchType := 13 }] (htab.trans rfl) (fun z hz => by simp at hz) (by decide) (by decide) (S.2.2.2.2 (.classLink RL 21 "java/lang/IndexOutOfBoundsException") (List.mem_of_getElem? (i := 1) rfl)) (va_Nw.use rfl (hE.2.2.2.2.2.2.2.2.1 "java/lang/IndexOutOfBoundsException" (by decide))) h1 h2 h3 ?_
      refine W.eq (g2 := F0 mth 13 ls [.ref q9]) rfl ?_
      refine lv_astore (lv' := [(4, .ref q9), (0, .ref (dad g p0)), (1, .int p1), (2, .int p2), (3, .ref (dad g p3))]) S.1 S.2.1 dL_fault_13 hl (by decide) rfl (fun ls hl => ?_)
      refine lv_iconst (v := 1) S.1 S.2.1 dL_fault_15 (by decide) ?_
      obtain ⟨rfl, rfl⟩ := Prod.mk.inj (Option.some.inj h)
      exact dLti S hr hlk hE hP hS (Nat.le_of_ble_eq_true rfl) (Nat.le_of_ble_eq_true rfl) dL_fault_16
    · have h := d_f hk0 h
      by_cases hk1 : kx = 1
      · obtain rfl : kx = 1 := hk1
        have h := d_t (rfl : (1 : Nat) = 1) h
        refine vx_catch (E := dEx 1) (name := "java/lang/IllegalArgumentException") S.2.2.2.1 [{ startPc := 0, endPc := 10, handlerPc := 13, catchType := 21 }] { startPc := 0, endPc := 10, handlerPc := 17, catchType := 13 } [] (htab.trans rfl) (fun z hz => by simp only [List.mem_cons, List.not_mem_nil, or_false] at hz; subst hz; exact Or.inr ⟨by decide, "java/lang/IndexOutOfBoundsException", S.2.2.2.2 (.classLink RL 21 "java/lang/IndexOutOfBoundsException") (List.mem_of_getElem? (i := 1) rfl), hE.2.2.2.2.2.2.2.2.2 (dEx 1) (by decide) "java/lang/IndexOutOfBoundsException" (by decide) (by decide)⟩) (by decide) (by decide) (S.2.2.2.2 (.classLink RL 13 "java/lang/IllegalArgumentException") (List.mem_of_getElem? (i := 2) rfl)) (va_Nw.use rfl (hE.2.2.2.2.2.2.2.2.1 "java/lang/IllegalArgumentException" (by decide))) h1 h2 h3 ?_
        refine W.eq (g2 := F0 mth 17 ls [.ref q9]) rfl ?_
        refine lv_astore (lv' := [(4, .ref q9), (0, .ref (dad g p0)), (1, .int p1), (2, .int p2), (3, .ref (dad g p3))]) S.1 S.2.1 dL_fault_17 hl (by decide) rfl (fun ls hl => ?_)
        refine lv_iconst (v := 2) S.1 S.2.1 dL_fault_19 (by decide) ?_
        obtain ⟨rfl, rfl⟩ := Prod.mk.inj (Option.some.inj h)
        exact dLti S hr hlk hE hP hS (Nat.le_of_ble_eq_true rfl) (Nat.le_of_ble_eq_true rfl) dL_fault_20
      · have h := d_f hk1 h
        cases h
  · subst eo
    have h := d_s2 h
    have h := d_p2 h
    refine lv_i2l S.1 S.2.1 dL_fault_8 rfl ?_
    obtain ⟨hi, h⟩ := d_g h
    refine d_last S hE hP hS k3 hi dL_fault_9 (fun H locs hP hS => ?_)
    obtain ⟨m5, em5⟩ : ∃ z : dM, z = d2 m2 p3 (Int32.toNatClampNeg (0)) (Int32.toInt64 v4) := ⟨_, rfl⟩
    have h := d_let em5 h
    rw [← em5] at hP
    refine lv_goto (tgt := 21) S.1 S.2.1 dL_fault_10 (by decide) ?_
    refine lv_iconst (v := 0) S.1 S.2.1 dL_fault_21 (by decide) ?_
    obtain ⟨rfl, rfl⟩ := Prod.mk.inj (Option.some.inj h)
    exact dLti S hr hlk hE hP hS (Nat.le_of_ble_eq_true rfl) (Nat.le_of_ble_eq_true rfl) dL_fault_22
set_option maxRecDepth 20000 in
theorem ggL_phase_X11_phase : GoodIn wsL_phase wsX11_phase := goodIn_ca (goodIn_ca (goodIn_r _ [7, 8, 9, 10, 11, 12, 13, 6, 14, 15, 16, 17, 18, 19, 20, 21, 22, 23, 24, 25, 26, 27, 28, 29, 30, 31, 32, 33, 34, 35, 36, 37, 38, 39, 40, 41, 42, 43, 44, 45, 46, 47, 48, 49, 50, 51, 52, 53, 54, 55, 56, 57, 58, 59, 60, 61, 62, 63, 64, 65, 66, 67, 68, 69, 70, 71, 72, 73, 74, 75, 76, 77, 78, 79, 80, 81, 82, 83, 84, 85, 86, 87, 88, 89, 90, 91, 92, 93, 94, 95, 96, 97, 98, 99, 100, 101, 102, 103, 104, 105, 106, 107, 108, 109, 110, 111, 112, 113, 114, 115, 116, 117, 118, 119, 120, 121, 122, 123, 124, 125, 126, 127, 128, 129, 130, 131, 132, 133, 134, 135, 136, 137, 138, 139, 140, 141] (by decide +kernel) (by decide +kernel)) (goodIn_sub (fun _ h => List.mem_cons_of_mem _ (List.mem_append_left _ (List.mem_append_right _ h))) (by decide +kernel))) (goodIn_sub (fun _ h => List.mem_cons_of_mem _ (List.mem_append_right _ h)) (by decide +kernel))
set_option maxRecDepth 20000 in
theorem gL_phase_X11_phase : GoodIn wsL_phase (wsV RL 67 RX11 yX11_phase wsX11_phase) := goodIn_app (goodIn_of _ (by decide +kernel)) ggL_phase_X11_phase
theorem dL_phase_0 : decode cL_phase 0 = .ok (.aload 5, 2) := by decide +kernel
theorem dL_phase_2 : decode cL_phase 2 = .ok (.iconst 0, 1) := by decide +kernel
theorem dL_phase_3 : decode cL_phase 3 = .ok (.aload_n 0, 1) := by decide +kernel
theorem dL_phase_4 : decode cL_phase 4 = .ok (.iload_n 1, 1) := by decide +kernel
theorem dL_phase_5 : decode cL_phase 5 = .ok (.iload_n 2, 1) := by decide +kernel
theorem dL_phase_6 : decode cL_phase 6 = .ok (.iload_n 3, 1) := by decide +kernel
theorem dL_phase_7 : decode cL_phase 7 = .ok (.iload 4, 2) := by decide +kernel
theorem dL_phase_9 : decode cL_phase 9 = .ok (.invokevirtual 67, 3) := by decide +kernel
theorem dL_phase_12 : decode cL_phase 12 = .ok (.i2l, 1) := by decide +kernel
theorem dL_phase_13 : decode cL_phase 13 = .ok (.lastore, 1) := by decide +kernel
theorem dL_phase_14 : decode cL_phase 14 = .ok (.goto 11, 3) := by decide +kernel
theorem dL_phase_17 : decode cL_phase 17 = .ok (.astore 6, 2) := by decide +kernel
theorem dL_phase_19 : decode cL_phase 19 = .ok (.iconst 1, 1) := by decide +kernel
theorem dL_phase_20 : decode cL_phase 20 = .ok (.ireturn, 1) := by decide +kernel
theorem dL_phase_21 : decode cL_phase 21 = .ok (.astore 6, 2) := by decide +kernel
theorem dL_phase_23 : decode cL_phase 23 = .ok (.iconst 2, 1) := by decide +kernel
theorem dL_phase_24 : decode cL_phase 24 = .ok (.ireturn, 1) := by decide +kernel
theorem dL_phase_25 : decode cL_phase 25 = .ok (.iconst 0, 1) := by decide +kernel
theorem dL_phase_26 : decode cL_phase 26 = .ok (.ireturn, 1) := by decide +kernel
def fL_phase (m : dM) (p0 : Nat) (p1 : Int32) (p2 : Int32) (p3 : Int32) (p4 : Int32) (p5 : Nat) : Option (Int32 × dM) := dg (dkg p0 12) (dg (dkg p5 22) ((fX11_phase m p0 p1 p2 p3 p4).bind (fun q => dS q (fun x => dP2 x (fun kx mx => if kx = 3 then some (1, mx) else if kx = 1 then some (2, mx) else none)) (fun q => dP2 q (fun v4 m2 => dg (dIx 0 (dL p5)) (dlet (d2 m2 p5 (Int32.toNatClampNeg (0)) (Int32.toInt64 v4)) (fun m5 => some (0, m5))))))))
set_option maxHeartbeats 4000000 in
set_option maxRecDepth 100000 in
theorem kL_phase (l : Launch) (g : dG) (hst : l.stackTraces = false) {m : dM} {p0 : Nat} {p1 : Int32} {p2 : Int32} {p3 : Int32} {p4 : Int32} {p5 : Nat} {r0 : Int32} {m0 : dM} (h : fL_phase m p0 p1 p2 p3 p4 p5 = some (r0, m0)) : dLMet l g yL_phase wsL_phase 9 157 4 [.ref (dad g p0), .int p1, .int p2, .int p3, .int p4, .ref (dad g p5)] m r0 m0 := by
  refine dLof (cc := cL_phase) (maxL := 7) (ret := (some .int)) (hh := [(0, 14, 17, 21), (0, 14, 21, 13)]) _ (by decide) rfl (Nat.le_of_ble_eq_true rfl) ?_
  intro p e s mth below meth c S hr hlk htab hE H ls hP hS hl
  have S : CallFix p mth c cL_phase 7 s _ wsL_phase RL := S
  have hl : lv_has ls 7 [(0, .ref (dad g p0)), (1, .int p1), (2, .int p2), (3, .int p3), (4, .int p4), (5, .ref (dad g p5))] := hl
  obtain ⟨locs, hlocs⟩ : ∃ z : List Loc, z = [] := ⟨_, rfl⟩
  rw [← hlocs] at hS ⊢
  unfold fL_phase at h
  obtain ⟨k0, h⟩ := d_g h
  have k0 := d_k k0
  obtain ⟨k5, h⟩ := d_g h
  have k5 := d_k k5
  refine lv_aload S.1 S.2.1 dL_phase_0 (lv_at hl 5 rfl) ?_
  refine lv_iconst (v := 0) S.1 S.2.1 dL_phase_2 (by decide) ?_
  refine lv_aload_n S.1 S.2.1 dL_phase_3 rfl (lv_at hl 0 rfl) ?_
  refine lv_iload_n S.1 S.2.1 dL_phase_4 rfl (lv_at hl 1 rfl) ?_
  refine lv_iload_n S.1 S.2.1 dL_phase_5 rfl (lv_at hl 2 rfl) ?_
  refine lv_iload_n S.1 S.2.1 dL_phase_6 rfl (lv_at hl 3 rfl) ?_
  refine lv_iload S.1 S.2.1 dL_phase_7 (lv_at hl 4 rfl) ?_
  obtain ⟨q3, hc1, h⟩ := d_b h
  refine dxri (o := q3) (vx_runV (As := [.int p1, .int p2, .int p3, .int p4]) (rest := [.int 0, .ref (dad g p5)]) S (kX11_phase l g hst hc1) (cwV 4 S.2.2.2.2 gL_phase_X11_phase rfl rfl rfl ynX11_phase ⟨Nat.le_of_ble_eq_true rfl, Nat.le_of_ble_eq_true rfl⟩) (dpV hE hP hS (ci := 11) rfl (dat12 k0)) rfl rfl hl.1 rfl (lv_room (Nat.le_of_ble_eq_true rfl)) dL_phase_9 ⟨Nat.le_of_ble_eq_true rfl, Nat.le_of_ble_eq_true rfl⟩) hS (fun u q9 ce H locs eo hP hS h1 h2 h3 => ?_) (fun v4 m2 H locs eo hP hS => ?_)
  · subst eo
    have h := d_s1 h
    obtain ⟨kx, mx⟩ := u
    have h := d_p2 h
    have hP : va_P g.1 vwCl (dws g mx) H := hP
    have h3 : s.vm.findClass (dEx kx) = some ce.cls := h3
    by_cases hk0 : kx = 3
    · obtain rfl : kx = 3 := hk0
      have h := d_t (rfl : (3 : Nat) = 3) h
      refine vx_catch (E := dEx 3) (name := "java/lang/IndexOutOfBoundsException") S.2.2.2.1 [] { startPc := 0, endPc := 14, handlerPc := 17, catchType := 21 } [{ startPc := 0, endPc := 14, handlerPc := 21, catchType := 13 }] (htab.trans rfl) (fun z hz => by simp at hz) (by decide) (by decide) (S.2.2.2.2 (.classLink RL 21 "java/lang/IndexOutOfBoundsException") (List.mem_of_getElem? (i := 1) rfl)) (va_Nw.use rfl (hE.2.2.2.2.2.2.2.2.1 "java/lang/IndexOutOfBoundsException" (by decide))) h1 h2 h3 ?_
      refine W.eq (g2 := F0 mth 17 ls [.ref q9]) rfl ?_
      refine lv_astore (lv' := [(6, .ref q9), (0, .ref (dad g p0)), (1, .int p1), (2, .int p2), (3, .int p3), (4, .int p4), (5, .ref (dad g p5))]) S.1 S.2.1 dL_phase_17 hl (by decide) rfl (fun ls hl => ?_)
      refine lv_iconst (v := 1) S.1 S.2.1 dL_phase_19 (by decide) ?_
      obtain ⟨rfl, rfl⟩ := Prod.mk.inj (Option.some.inj h)
      exact dLti S hr hlk hE hP hS (Nat.le_of_ble_eq_true rfl) (Nat.le_of_ble_eq_true rfl) dL_phase_20
    · have h := d_f hk0 h
      by_cases hk1 : kx = 1
      · obtain rfl : kx = 1 := hk1
        have h := d_t (rfl : (1 : Nat) = 1) h
        refine vx_catch (E := dEx 1) (name := "java/lang/IllegalArgumentException") S.2.2.2.1 [{ startPc := 0, endPc := 14, handlerPc := 17, catchType := 21 }] { startPc := 0, endPc := 14, handlerPc := 21, catchType := 13 } [] (htab.trans rfl) (fun z hz => by simp only [List.mem_cons, List.not_mem_nil, or_false] at hz; subst hz; exact Or.inr ⟨by decide, "java/lang/IndexOutOfBoundsException", S.2.2.2.2 (.classLink RL 21 "java/lang/IndexOutOfBoundsException") (List.mem_of_getElem? (i := 1) rfl), hE.2.2.2.2.2.2.2.2.2 (dEx 1) (by decide) "java/lang/IndexOutOfBoundsException" (by decide) (by decide)⟩) (by decide) (by decide) (S.2.2.2.2 (.classLink RL 13 "java/lang/IllegalArgumentException") (List.mem_of_getElem? (i := 2) rfl)) (va_Nw.use rfl (hE.2.2.2.2.2.2.2.2.1 "java/lang/IllegalArgumentException" (by decide))) h1 h2 h3 ?_
        refine W.eq (g2 := F0 mth 21 ls [.ref q9]) rfl ?_
        refine lv_astore (lv' := [(6, .ref q9), (0, .ref (dad g p0)), (1, .int p1), (2, .int p2), (3, .int p3), (4, .int p4), (5, .ref (dad g p5))]) S.1 S.2.1 dL_phase_21 hl (by decide) rfl (fun ls hl => ?_)
        refine lv_iconst (v := 2) S.1 S.2.1 dL_phase_23 (by decide) ?_
        obtain ⟨rfl, rfl⟩ := Prod.mk.inj (Option.some.inj h)
        exact dLti S hr hlk hE hP hS (Nat.le_of_ble_eq_true rfl) (Nat.le_of_ble_eq_true rfl) dL_phase_24
      · have h := d_f hk1 h
        cases h
  · subst eo
    have h := d_s2 h
    have h := d_p2 h
    refine lv_i2l S.1 S.2.1 dL_phase_12 rfl ?_
    obtain ⟨hi, h⟩ := d_g h
    refine d_last S hE hP hS k5 hi dL_phase_13 (fun H locs hP hS => ?_)
    obtain ⟨m5, em5⟩ : ∃ z : dM, z = d2 m2 p5 (Int32.toNatClampNeg (0)) (Int32.toInt64 v4) := ⟨_, rfl⟩
    have h := d_let em5 h
    rw [← em5] at hP
    refine lv_goto (tgt := 25) S.1 S.2.1 dL_phase_14 (by decide) ?_
    refine lv_iconst (v := 0) S.1 S.2.1 dL_phase_25 (by decide) ?_
    obtain ⟨rfl, rfl⟩ := Prod.mk.inj (Option.some.inj h)
    exact dLti S hr hlk hE hP hS (Nat.le_of_ble_eq_true rfl) (Nat.le_of_ble_eq_true rfl) dL_phase_26
set_option maxRecDepth 20000 in
theorem ggL_caught_X11_caught : GoodIn wsL_caught wsX11_caught := goodIn_ca (goodIn_ca (goodIn_ca (goodIn_r _ [8, 9, 10, 11, 12, 13, 14, 15, 16, 17, 18, 19, 20, 21, 22, 7, 23, 24, 25, 26, 27, 28, 29, 30, 31, 32, 33, 34, 35, 36, 37, 38, 39, 40, 41, 42, 43, 44, 45, 46, 47, 48, 49, 50, 51, 52, 53, 54, 55, 56, 57, 58, 59, 60, 61, 62, 63, 64, 65, 66, 67, 68, 69, 70, 71, 72, 73, 74, 75, 76, 77, 78, 79, 80, 81, 82, 83, 84, 85, 86, 87, 88, 89, 90, 91, 92, 93, 94, 95, 96, 97, 98, 99, 100, 101, 102, 103, 104, 105, 106, 107, 108, 109, 110, 111, 112, 113, 114, 115, 116, 117, 118, 119, 120, 121, 122, 123, 124, 125, 126] (by decide +kernel) (by decide +kernel)) (goodIn_sub (fun _ h => List.mem_cons_of_mem _ (List.mem_append_left _ (List.mem_append_left _ (List.mem_append_right _ h)))) (by decide +kernel))) (goodIn_sub (fun _ h => List.mem_cons_of_mem _ (List.mem_append_left _ (List.mem_append_right _ h))) (by decide +kernel))) (goodIn_sub (fun _ h => List.mem_cons_of_mem _ (List.mem_append_right _ h)) (by decide +kernel))
set_option maxRecDepth 20000 in
theorem gL_caught_X11_caught : GoodIn wsL_caught (wsV RL 70 RX11 yX11_caught wsX11_caught) := goodIn_app (goodIn_of _ (by decide +kernel)) ggL_caught_X11_caught
theorem dL_caught_0 : decode cL_caught 0 = .ok (.aload 6, 2) := by decide +kernel
theorem dL_caught_2 : decode cL_caught 2 = .ok (.iconst 0, 1) := by decide +kernel
theorem dL_caught_3 : decode cL_caught 3 = .ok (.aload_n 0, 1) := by decide +kernel
theorem dL_caught_4 : decode cL_caught 4 = .ok (.iload_n 1, 1) := by decide +kernel
theorem dL_caught_5 : decode cL_caught 5 = .ok (.iload_n 2, 1) := by decide +kernel
theorem dL_caught_6 : decode cL_caught 6 = .ok (.iload_n 3, 1) := by decide +kernel
theorem dL_caught_7 : decode cL_caught 7 = .ok (.iload 4, 2) := by decide +kernel
theorem dL_caught_9 : decode cL_caught 9 = .ok (.iload 5, 2) := by decide +kernel
theorem dL_caught_11 : decode cL_caught 11 = .ok (.invokevirtual 70, 3) := by decide +kernel
theorem dL_caught_14 : decode cL_caught 14 = .ok (.ifCond .eq 7, 3) := by decide +kernel
theorem dL_caught_17 : decode cL_caught 17 = .ok (.lconst 1, 1) := by decide +kernel
theorem dL_caught_18 : decode cL_caught 18 = .ok (.goto 4, 3) := by decide +kernel
theorem dL_caught_21 : decode cL_caught 21 = .ok (.lconst 0, 1) := by decide +kernel
theorem dL_caught_22 : decode cL_caught 22 = .ok (.lastore, 1) := by decide +kernel
theorem dL_caught_23 : decode cL_caught 23 = .ok (.goto 15, 3) := by decide +kernel
theorem dL_caught_26 : decode cL_caught 26 = .ok (.astore 7, 2) := by decide +kernel
theorem dL_caught_28 : decode cL_caught 28 = .ok (.iconst 1, 1) := by decide +kernel
theorem dL_caught_29 : decode cL_caught 29 = .ok (.ireturn, 1) := by decide +kernel
theorem dL_caught_30 : decode cL_caught 30 = .ok (.astore 7, 2) := by decide +kernel
theorem dL_caught_32 : decode cL_caught 32 = .ok (.iconst 2, 1) := by decide +kernel
theorem dL_caught_33 : decode cL_caught 33 = .ok (.ireturn, 1) := by decide +kernel
theorem dL_caught_34 : decode cL_caught 34 = .ok (.astore 7, 2) := by decide +kernel
theorem dL_caught_36 : decode cL_caught 36 = .ok (.iconst 3, 1) := by decide +kernel
theorem dL_caught_37 : decode cL_caught 37 = .ok (.ireturn, 1) := by decide +kernel
theorem dL_caught_38 : decode cL_caught 38 = .ok (.iconst 0, 1) := by decide +kernel
theorem dL_caught_39 : decode cL_caught 39 = .ok (.ireturn, 1) := by decide +kernel
def fL_caught (m : dM) (p0 : Nat) (p1 : Int32) (p2 : Int32) (p3 : Int32) (p4 : Int32) (p5 : Int32) (p6 : Nat) : Option (Int32 × dM) := dg (dkg p0 12) (dg (dkg p6 22) ((fX11_caught m p0 p1 p2 p3 p4 p5).bind (fun q => dS q (fun x => dP2 x (fun kx mx => if kx = 3 then some (1, mx) else if kx = 1 then some (2, mx) else if kx = 2 then some (3, mx) else none)) (fun q => dP2 q (fun v4 m2 => if v4 = 0 then dg (dIx 0 (dL p6)) (dlet (d2 m2 p6 (Int32.toNatClampNeg (0)) 0) (fun m5 => some (0, m5))) else dg (dIx 0 (dL p6)) (dlet (d2 m2 p6 (Int32.toNatClampNeg (0)) 1) (fun m6 => some (0, m6))))))))
set_option maxHeartbeats 4000000 in
set_option maxRecDepth 100000 in
theorem kL_caught (l : Launch) (g : dG) (hst : l.stackTraces = false) {m : dM} {p0 : Nat} {p1 : Int32} {p2 : Int32} {p3 : Int32} {p4 : Int32} {p5 : Int32} {p6 : Nat} {r0 : Int32} {m0 : dM} (h : fL_caught m p0 p1 p2 p3 p4 p5 p6 = some (r0, m0)) : dLMet l g yL_caught wsL_caught 9 161 6 [.ref (dad g p0), .int p1, .int p2, .int p3, .int p4, .int p5, .ref (dad g p6)] m r0 m0 := by
  refine dLof (cc := cL_caught) (maxL := 8) (ret := (some .int)) (hh := [(0, 23, 26, 21), (0, 23, 30, 13), (0, 23, 34, 15)]) _ (by decide) rfl (Nat.le_of_ble_eq_true rfl) ?_
  intro p e s mth below meth c S hr hlk htab hE H ls hP hS hl
  have S : CallFix p mth c cL_caught 8 s _ wsL_caught RL := S
  have hl : lv_has ls 8 [(0, .ref (dad g p0)), (1, .int p1), (2, .int p2), (3, .int p3), (4, .int p4), (5, .int p5), (6, .ref (dad g p6))] := hl
  obtain ⟨locs, hlocs⟩ : ∃ z : List Loc, z = [] := ⟨_, rfl⟩
  rw [← hlocs] at hS ⊢
  unfold fL_caught at h
  obtain ⟨k0, h⟩ := d_g h
  have k0 := d_k k0
  obtain ⟨k6, h⟩ := d_g h
  have k6 := d_k k6
  refine lv_aload S.1 S.2.1 dL_caught_0 (lv_at hl 6 rfl) ?_
  refine lv_iconst (v := 0) S.1 S.2.1 dL_caught_2 (by decide) ?_
  refine lv_aload_n S.1 S.2.1 dL_caught_3 rfl (lv_at hl 0 rfl) ?_
  refine lv_iload_n S.1 S.2.1 dL_caught_4 rfl (lv_at hl 1 rfl) ?_
  refine lv_iload_n S.1 S.2.1 dL_caught_5 rfl (lv_at hl 2 rfl) ?_
  refine lv_iload_n S.1 S.2.1 dL_caught_6 rfl (lv_at hl 3 rfl) ?_
  refine lv_iload S.1 S.2.1 dL_caught_7 (lv_at hl 4 rfl) ?_
  refine lv_iload S.1 S.2.1 dL_caught_9 (lv_at hl 5 rfl) ?_
  obtain ⟨q3, hc1, h⟩ := d_b h
  refine dxri (o := q3) (vx_runV (As := [.int p1, .int p2, .int p3, .int p4, .int p5]) (rest := [.int 0, .ref (dad g p6)]) S (kX11_caught l g hst hc1) (cwV 5 S.2.2.2.2 gL_caught_X11_caught rfl rfl rfl ynX11_caught ⟨Nat.le_of_ble_eq_true rfl, Nat.le_of_ble_eq_true rfl⟩) (dpV hE hP hS (ci := 11) rfl (dat12 k0)) rfl rfl hl.1 rfl (lv_room (Nat.le_of_ble_eq_true rfl)) dL_caught_11 ⟨Nat.le_of_ble_eq_true rfl, Nat.le_of_ble_eq_true rfl⟩) hS (fun u q9 ce H locs eo hP hS h1 h2 h3 => ?_) (fun v4 m2 H locs eo hP hS => ?_)
  · subst eo
    have h := d_s1 h
    obtain ⟨kx, mx⟩ := u
    have h := d_p2 h
    have hP : va_P g.1 vwCl (dws g mx) H := hP
    have h3 : s.vm.findClass (dEx kx) = some ce.cls := h3
    by_cases hk0 : kx = 3
    · obtain rfl : kx = 3 := hk0
      have h := d_t (rfl : (3 : Nat) = 3) h
      refine vx_catch (E := dEx 3) (name := "java/lang/IndexOutOfBoundsException") S.2.2.2.1 [] { startPc := 0, endPc := 23, handlerPc := 26, catchType := 21 } [{ startPc := 0, endPc := 23, handlerPc := 30, catchType := 13 }, { startPc := 0, endPc := 23, handlerPc := 34, catchType := 15 }] (htab.trans rfl) (fun z hz => by simp at hz) (by decide) (by decide) (S.2.2.2.2 (.classLink RL 21 "java/lang/IndexOutOfBoundsException") (List.mem_of_getElem? (i := 1) rfl)) (va_Nw.use rfl (hE.2.2.2.2.2.2.2.2.1 "java/lang/IndexOutOfBoundsException" (by decide))) h1 h2 h3 ?_
      refine W.eq (g2 := F0 mth 26 ls [.ref q9]) rfl ?_
      refine lv_astore (lv' := [(7, .ref q9), (0, .ref (dad g p0)), (1, .int p1), (2, .int p2), (3, .int p3), (4, .int p4), (5, .int p5), (6, .ref (dad g p6))]) S.1 S.2.1 dL_caught_26 hl (by decide) rfl (fun ls hl => ?_)
      refine lv_iconst (v := 1) S.1 S.2.1 dL_caught_28 (by decide) ?_
      obtain ⟨rfl, rfl⟩ := Prod.mk.inj (Option.some.inj h)
      exact dLti S hr hlk hE hP hS (Nat.le_of_ble_eq_true rfl) (Nat.le_of_ble_eq_true rfl) dL_caught_29
    · have h := d_f hk0 h
      by_cases hk1 : kx = 1
      · obtain rfl : kx = 1 := hk1
        have h := d_t (rfl : (1 : Nat) = 1) h
        refine vx_catch (E := dEx 1) (name := "java/lang/IllegalArgumentException") S.2.2.2.1 [{ startPc := 0, endPc := 23, handlerPc := 26, catchType := 21 }] { startPc := 0, endPc := 23, handlerPc := 30, catchType := 13 } [{ startPc := 0, endPc := 23, handlerPc := 34, catchType := 15 }] (htab.trans rfl) (fun z hz => by simp only [List.mem_cons, List.not_mem_nil, or_false] at hz; subst hz; exact Or.inr ⟨by decide, "java/lang/IndexOutOfBoundsException", S.2.2.2.2 (.classLink RL 21 "java/lang/IndexOutOfBoundsException") (List.mem_of_getElem? (i := 1) rfl), hE.2.2.2.2.2.2.2.2.2 (dEx 1) (by decide) "java/lang/IndexOutOfBoundsException" (by decide) (by decide)⟩) (by decide) (by decide) (S.2.2.2.2 (.classLink RL 13 "java/lang/IllegalArgumentException") (List.mem_of_getElem? (i := 2) rfl)) (va_Nw.use rfl (hE.2.2.2.2.2.2.2.2.1 "java/lang/IllegalArgumentException" (by decide))) h1 h2 h3 ?_
        refine W.eq (g2 := F0 mth 30 ls [.ref q9]) rfl ?_
        refine lv_astore (lv' := [(7, .ref q9), (0, .ref (dad g p0)), (1, .int p1), (2, .int p2), (3, .int p3), (4, .int p4), (5, .int p5), (6, .ref (dad g p6))]) S.1 S.2.1 dL_caught_30 hl (by decide) rfl (fun ls hl => ?_)
        refine lv_iconst (v := 2) S.1 S.2.1 dL_caught_32 (by decide) ?_
        obtain ⟨rfl, rfl⟩ := Prod.mk.inj (Option.some.inj h)
        exact dLti S hr hlk hE hP hS (Nat.le_of_ble_eq_true rfl) (Nat.le_of_ble_eq_true rfl) dL_caught_33
      · have h := d_f hk1 h
        by_cases hk2 : kx = 2
        · obtain rfl : kx = 2 := hk2
          have h := d_t (rfl : (2 : Nat) = 2) h
          refine vx_catch (E := dEx 2) (name := "java/lang/IllegalStateException") S.2.2.2.1 [{ startPc := 0, endPc := 23, handlerPc := 26, catchType := 21 }, { startPc := 0, endPc := 23, handlerPc := 30, catchType := 13 }] { startPc := 0, endPc := 23, handlerPc := 34, catchType := 15 } [] (htab.trans rfl) (fun z hz => by simp only [List.mem_cons, List.not_mem_nil, or_false] at hz; rcases hz with rfl | rfl; exact Or.inr ⟨by decide, "java/lang/IndexOutOfBoundsException", S.2.2.2.2 (.classLink RL 21 "java/lang/IndexOutOfBoundsException") (List.mem_of_getElem? (i := 1) rfl), hE.2.2.2.2.2.2.2.2.2 (dEx 2) (by decide) "java/lang/IndexOutOfBoundsException" (by decide) (by decide)⟩; exact Or.inr ⟨by decide, "java/lang/IllegalArgumentException", S.2.2.2.2 (.classLink RL 13 "java/lang/IllegalArgumentException") (List.mem_of_getElem? (i := 2) rfl), hE.2.2.2.2.2.2.2.2.2 (dEx 2) (by decide) "java/lang/IllegalArgumentException" (by decide) (by decide)⟩) (by decide) (by decide) (S.2.2.2.2 (.classLink RL 15 "java/lang/IllegalStateException") (List.mem_of_getElem? (i := 3) rfl)) (va_Nw.use rfl (hE.2.2.2.2.2.2.2.2.1 "java/lang/IllegalStateException" (by decide))) h1 h2 h3 ?_
          refine W.eq (g2 := F0 mth 34 ls [.ref q9]) rfl ?_
          refine lv_astore (lv' := [(7, .ref q9), (0, .ref (dad g p0)), (1, .int p1), (2, .int p2), (3, .int p3), (4, .int p4), (5, .int p5), (6, .ref (dad g p6))]) S.1 S.2.1 dL_caught_34 hl (by decide) rfl (fun ls hl => ?_)
          refine lv_iconst (v := 3) S.1 S.2.1 dL_caught_36 (by decide) ?_
          obtain ⟨rfl, rfl⟩ := Prod.mk.inj (Option.some.inj h)
          exact dLti S hr hlk hE hP hS (Nat.le_of_ble_eq_true rfl) (Nat.le_of_ble_eq_true rfl) dL_caught_37
        · have h := d_f hk2 h
          cases h
  · subst eo
    have h := d_s2 h
    have h := d_p2 h
    refine lv_if_eq (tgt := 21) S.1 S.2.1 dL_caught_14 (by decide) (fun cq => ?_) (fun cq => ?_)
    · have h := d_t cq h
      refine lv_lconst (v := 0) S.1 S.2.1 dL_caught_21 (by decide) ?_
      obtain ⟨hi, h⟩ := d_g h
      refine d_last S hE hP hS k6 hi dL_caught_22 (fun H locs hP hS => ?_)
      obtain ⟨m5, em5⟩ : ∃ z : dM, z = d2 m2 p6 (Int32.toNatClampNeg (0)) 0 := ⟨_, rfl⟩
      have h := d_let em5 h
      rw [← em5] at hP
      refine lv_goto (tgt := 38) S.1 S.2.1 dL_caught_23 (by decide) ?_
      refine lv_iconst (v := 0) S.1 S.2.1 dL_caught_38 (by decide) ?_
      obtain ⟨rfl, rfl⟩ := Prod.mk.inj (Option.some.inj h)
      exact dLti S hr hlk hE hP hS (Nat.le_of_ble_eq_true rfl) (Nat.le_of_ble_eq_true rfl) dL_caught_39
    · have h := d_f cq h
      refine lv_lconst (v := 1) S.1 S.2.1 dL_caught_17 (by decide) ?_
      refine lv_goto (tgt := 22) S.1 S.2.1 dL_caught_18 (by decide) ?_
      obtain ⟨hi, h⟩ := d_g h
      refine d_last S hE hP hS k6 hi dL_caught_22 (fun H locs hP hS => ?_)
      obtain ⟨m6, em6⟩ : ∃ z : dM, z = d2 m2 p6 (Int32.toNatClampNeg (0)) 1 := ⟨_, rfl⟩
      have h := d_let em6 h
      rw [← em6] at hP
      refine lv_goto (tgt := 38) S.1 S.2.1 dL_caught_23 (by decide) ?_
      refine lv_iconst (v := 0) S.1 S.2.1 dL_caught_38 (by decide) ?_
      obtain ⟨rfl, rfl⟩ := Prod.mk.inj (Option.some.inj h)
      exact dLti S hr hlk hE hP hS (Nat.le_of_ble_eq_true rfl) (Nat.le_of_ble_eq_true rfl) dL_caught_39
set_option maxRecDepth 20000 in
theorem ggL_page_X11_page : GoodIn wsL_page wsX11_page := goodIn_ca (goodIn_ca (goodIn_r _ [7, 8, 9, 10, 11, 6, 12, 13, 14, 15, 16, 17, 18, 19, 20, 21, 22, 23, 24, 25, 26, 27, 28, 29, 30, 31, 32, 33, 34, 35, 36, 37, 38, 39, 40, 41, 42, 43, 44, 45, 46, 47, 48, 49, 50, 51, 52, 53, 54, 55, 56, 57, 58, 59, 60, 61, 62, 63, 64, 65, 66, 67, 68, 69, 70, 71, 72, 73, 74, 75, 76, 77, 78, 79, 80, 81, 82, 83, 84, 85, 86, 87, 88, 89, 90, 91, 92, 93, 94, 95, 96, 97, 98, 99, 100, 101, 102, 103, 104, 105, 106] (by decide +kernel) (by decide +kernel)) (goodIn_sub (fun _ h => List.mem_cons_of_mem _ (List.mem_append_left _ (List.mem_append_right _ h))) (by decide +kernel))) (goodIn_sub (fun _ h => List.mem_cons_of_mem _ (List.mem_append_right _ h)) (by decide +kernel))
set_option maxRecDepth 20000 in
theorem gL_page_X11_page : GoodIn wsL_page (wsV RL 74 RX11 yX11_page wsX11_page) := goodIn_app (goodIn_of _ (by decide +kernel)) ggL_page_X11_page
theorem dL_page_0 : decode cL_page 0 = .ok (.aload 4, 2) := by decide +kernel
theorem dL_page_2 : decode cL_page 2 = .ok (.iconst 0, 1) := by decide +kernel
theorem dL_page_3 : decode cL_page 3 = .ok (.aload_n 0, 1) := by decide +kernel
theorem dL_page_4 : decode cL_page 4 = .ok (.iload_n 1, 1) := by decide +kernel
theorem dL_page_5 : decode cL_page 5 = .ok (.iload_n 2, 1) := by decide +kernel
theorem dL_page_6 : decode cL_page 6 = .ok (.iload_n 3, 1) := by decide +kernel
theorem dL_page_7 : decode cL_page 7 = .ok (.invokevirtual 74, 3) := by decide +kernel
theorem dL_page_10 : decode cL_page 10 = .ok (.i2l, 1) := by decide +kernel
theorem dL_page_11 : decode cL_page 11 = .ok (.lastore, 1) := by decide +kernel
theorem dL_page_12 : decode cL_page 12 = .ok (.goto 11, 3) := by decide +kernel
theorem dL_page_15 : decode cL_page 15 = .ok (.astore 5, 2) := by decide +kernel
theorem dL_page_17 : decode cL_page 17 = .ok (.iconst 1, 1) := by decide +kernel
theorem dL_page_18 : decode cL_page 18 = .ok (.ireturn, 1) := by decide +kernel
theorem dL_page_19 : decode cL_page 19 = .ok (.astore 5, 2) := by decide +kernel
theorem dL_page_21 : decode cL_page 21 = .ok (.iconst 2, 1) := by decide +kernel
theorem dL_page_22 : decode cL_page 22 = .ok (.ireturn, 1) := by decide +kernel
theorem dL_page_23 : decode cL_page 23 = .ok (.iconst 0, 1) := by decide +kernel
theorem dL_page_24 : decode cL_page 24 = .ok (.ireturn, 1) := by decide +kernel
def fL_page (m : dM) (p0 : Nat) (p1 : Int32) (p2 : Int32) (p3 : Int32) (p4 : Nat) : Option (Int32 × dM) := dg (dkg p0 12) (dg (dkg p4 22) ((fX11_page m p0 p1 p2 p3).bind (fun q => dS q (fun x => dP2 x (fun kx mx => if kx = 3 then some (1, mx) else if kx = 1 then some (2, mx) else none)) (fun q => dP2 q (fun v4 m2 => dg (dIx 0 (dL p4)) (dlet (d2 m2 p4 (Int32.toNatClampNeg (0)) (Int32.toInt64 v4)) (fun m5 => some (0, m5))))))))
set_option maxHeartbeats 4000000 in
set_option maxRecDepth 100000 in
theorem kL_page (l : Launch) (g : dG) (hst : l.stackTraces = false) {m : dM} {p0 : Nat} {p1 : Int32} {p2 : Int32} {p3 : Int32} {p4 : Nat} {r0 : Int32} {m0 : dM} (h : fL_page m p0 p1 p2 p3 p4 = some (r0, m0)) : dLMet l g yL_page wsL_page 9 156 3 [.ref (dad g p0), .int p1, .int p2, .int p3, .ref (dad g p4)] m r0 m0 := by
  refine dLof (cc := cL_page) (maxL := 6) (ret := (some .int)) (hh := [(0, 12, 15, 21), (0, 12, 19, 13)]) _ (by decide) rfl (Nat.le_of_ble_eq_true rfl) ?_
  intro p e s mth below meth c S hr hlk htab hE H ls hP hS hl
  have S : CallFix p mth c cL_page 6 s _ wsL_page RL := S
  have hl : lv_has ls 6 [(0, .ref (dad g p0)), (1, .int p1), (2, .int p2), (3, .int p3), (4, .ref (dad g p4))] := hl
  obtain ⟨locs, hlocs⟩ : ∃ z : List Loc, z = [] := ⟨_, rfl⟩
  rw [← hlocs] at hS ⊢
  unfold fL_page at h
  obtain ⟨k0, h⟩ := d_g h
  have k0 := d_k k0
  obtain ⟨k4, h⟩ := d_g h
  have k4 := d_k k4
  refine lv_aload S.1 S.2.1 dL_page_0 (lv_at hl 4 rfl) ?_
  refine lv_iconst (v := 0) S.1 S.2.1 dL_page_2 (by decide) ?_
  refine lv_aload_n S.1 S.2.1 dL_page_3 rfl (lv_at hl 0 rfl) ?_
  refine lv_iload_n S.1 S.2.1 dL_page_4 rfl (lv_at hl 1 rfl) ?_
  refine lv_iload_n S.1 S.2.1 dL_page_5 rfl (lv_at hl 2 rfl) ?_
  refine lv_iload_n S.1 S.2.1 dL_page_6 rfl (lv_at hl 3 rfl) ?_
  obtain ⟨q3, hc1, h⟩ := d_b h
  refine dxri (o := q3) (vx_runV (As := [.int p1, .int p2, .int p3]) (rest := [.int 0, .ref (dad g p4)]) S (kX11_page l g hst hc1) (cwV 3 S.2.2.2.2 gL_page_X11_page rfl rfl rfl ynX11_page ⟨Nat.le_of_ble_eq_true rfl, Nat.le_of_ble_eq_true rfl⟩) (dpV hE hP hS (ci := 11) rfl (dat12 k0)) rfl rfl hl.1 rfl (lv_room (Nat.le_of_ble_eq_true rfl)) dL_page_7 ⟨Nat.le_of_ble_eq_true rfl, Nat.le_of_ble_eq_true rfl⟩) hS (fun u q9 ce H locs eo hP hS h1 h2 h3 => ?_) (fun v4 m2 H locs eo hP hS => ?_)
  · subst eo
    have h := d_s1 h
    obtain ⟨kx, mx⟩ := u
    have h := d_p2 h
    have hP : va_P g.1 vwCl (dws g mx) H := hP
    have h3 : s.vm.findClass (dEx kx) = some ce.cls := h3
    by_cases hk0 : kx = 3
    · obtain rfl : kx = 3 := hk0
      have h := d_t (rfl : (3 : Nat) = 3) h
      refine vx_catch (E := dEx 3) (name := "java/lang/IndexOutOfBoundsException") S.2.2.2.1 [] { startPc := 0, endPc := 12, handlerPc := 15, catchType := 21 } [{ startPc := 0, endPc := 12, handlerPc := 19, catchType := 13 }] (htab.trans rfl) (fun z hz => by simp at hz) (by decide) (by decide) (S.2.2.2.2 (.classLink RL 21 "java/lang/IndexOutOfBoundsException") (List.mem_of_getElem? (i := 1) rfl)) (va_Nw.use rfl (hE.2.2.2.2.2.2.2.2.1 "java/lang/IndexOutOfBoundsException" (by decide))) h1 h2 h3 ?_
      refine W.eq (g2 := F0 mth 15 ls [.ref q9]) rfl ?_
      refine lv_astore (lv' := [(5, .ref q9), (0, .ref (dad g p0)), (1, .int p1), (2, .int p2), (3, .int p3), (4, .ref (dad g p4))]) S.1 S.2.1 dL_page_15 hl (by decide) rfl (fun ls hl => ?_)
      refine lv_iconst (v := 1) S.1 S.2.1 dL_page_17 (by decide) ?_
      obtain ⟨rfl, rfl⟩ := Prod.mk.inj (Option.some.inj h)
      exact dLti S hr hlk hE hP hS (Nat.le_of_ble_eq_true rfl) (Nat.le_of_ble_eq_true rfl) dL_page_18
    · have h := d_f hk0 h
      by_cases hk1 : kx = 1
      · obtain rfl : kx = 1 := hk1
        have h := d_t (rfl : (1 : Nat) = 1) h
        refine vx_catch (E := dEx 1) (name := "java/lang/IllegalArgumentException") S.2.2.2.1 [{ startPc := 0, endPc := 12, handlerPc := 15, catchType := 21 }] { startPc := 0, endPc := 12, handlerPc := 19, catchType := 13 } [] (htab.trans rfl) (fun z hz => by simp only [List.mem_cons, List.not_mem_nil, or_false] at hz; subst hz; exact Or.inr ⟨by decide, "java/lang/IndexOutOfBoundsException", S.2.2.2.2 (.classLink RL 21 "java/lang/IndexOutOfBoundsException") (List.mem_of_getElem? (i := 1) rfl), hE.2.2.2.2.2.2.2.2.2 (dEx 1) (by decide) "java/lang/IndexOutOfBoundsException" (by decide) (by decide)⟩) (by decide) (by decide) (S.2.2.2.2 (.classLink RL 13 "java/lang/IllegalArgumentException") (List.mem_of_getElem? (i := 2) rfl)) (va_Nw.use rfl (hE.2.2.2.2.2.2.2.2.1 "java/lang/IllegalArgumentException" (by decide))) h1 h2 h3 ?_
        refine W.eq (g2 := F0 mth 19 ls [.ref q9]) rfl ?_
        refine lv_astore (lv' := [(5, .ref q9), (0, .ref (dad g p0)), (1, .int p1), (2, .int p2), (3, .int p3), (4, .ref (dad g p4))]) S.1 S.2.1 dL_page_19 hl (by decide) rfl (fun ls hl => ?_)
        refine lv_iconst (v := 2) S.1 S.2.1 dL_page_21 (by decide) ?_
        obtain ⟨rfl, rfl⟩ := Prod.mk.inj (Option.some.inj h)
        exact dLti S hr hlk hE hP hS (Nat.le_of_ble_eq_true rfl) (Nat.le_of_ble_eq_true rfl) dL_page_22
      · have h := d_f hk1 h
        cases h
  · subst eo
    have h := d_s2 h
    have h := d_p2 h
    refine lv_i2l S.1 S.2.1 dL_page_10 rfl ?_
    obtain ⟨hi, h⟩ := d_g h
    refine d_last S hE hP hS k4 hi dL_page_11 (fun H locs hP hS => ?_)
    obtain ⟨m5, em5⟩ : ∃ z : dM, z = d2 m2 p4 (Int32.toNatClampNeg (0)) (Int32.toInt64 v4) := ⟨_, rfl⟩
    have h := d_let em5 h
    rw [← em5] at hP
    refine lv_goto (tgt := 23) S.1 S.2.1 dL_page_12 (by decide) ?_
    refine lv_iconst (v := 0) S.1 S.2.1 dL_page_23 (by decide) ?_
    obtain ⟨rfl, rfl⟩ := Prod.mk.inj (Option.some.inj h)
    exact dLti S hr hlk hE hP hS (Nat.le_of_ble_eq_true rfl) (Nat.le_of_ble_eq_true rfl) dL_page_24
set_option maxRecDepth 20000 in
theorem ggL_clock_X11_clock : GoodIn wsL_clock wsX11_clock := goodIn_ca (goodIn_r _ [6, 7, 8, 9, 5, 10, 11, 12, 13, 14, 15, 16, 17, 18, 19, 20, 21, 22, 23, 24, 25, 26, 27, 28, 29, 30, 31, 32, 33, 34] (by decide +kernel) (by decide +kernel)) (goodIn_sub (fun _ h => List.mem_cons_of_mem _ (List.mem_append_right _ h)) (by decide +kernel))
set_option maxRecDepth 20000 in
theorem gL_clock_X11_clock : GoodIn wsL_clock (wsV RL 77 RX11 yX11_clock wsX11_clock) := goodIn_app (goodIn_of _ (by decide +kernel)) ggL_clock_X11_clock
theorem dL_clock_0 : decode cL_clock 0 = .ok (.aload_n 0, 1) := by decide +kernel
theorem dL_clock_1 : decode cL_clock 1 = .ok (.iload_n 1, 1) := by decide +kernel
theorem dL_clock_2 : decode cL_clock 2 = .ok (.iload_n 2, 1) := by decide +kernel
theorem dL_clock_3 : decode cL_clock 3 = .ok (.invokevirtual 77, 3) := by decide +kernel
theorem dL_clock_6 : decode cL_clock 6 = .ok (.goto 6, 3) := by decide +kernel
theorem dL_clock_9 : decode cL_clock 9 = .ok (.astore_n 3, 1) := by decide +kernel
theorem dL_clock_10 : decode cL_clock 10 = .ok (.iconst 1, 1) := by decide +kernel
theorem dL_clock_11 : decode cL_clock 11 = .ok (.ireturn, 1) := by decide +kernel
theorem dL_clock_12 : decode cL_clock 12 = .ok (.iconst 0, 1) := by decide +kernel
theorem dL_clock_13 : decode cL_clock 13 = .ok (.ireturn, 1) := by decide +kernel
def fL_clock (m : dM) (p0 : Nat) (p1 : Int32) (p2 : Int32) : Option (Int32 × dM) := dg (dkg p0 12) ((fX11_clock m p0 p1 p2).bind (fun q => dS q (fun x => dP2 x (fun kx mx => if kx = 1 then some (1, mx) else none)) (fun m2 => some (0, m2))))
set_option maxHeartbeats 4000000 in
set_option maxRecDepth 100000 in
theorem kL_clock (l : Launch) (g : dG) (hst : l.stackTraces = false) {m : dM} {p0 : Nat} {p1 : Int32} {p2 : Int32} {r0 : Int32} {m0 : dM} (h : fL_clock m p0 p1 p2 = some (r0, m0)) : dLMet l g yL_clock wsL_clock 8 134 2 [.ref (dad g p0), .int p1, .int p2] m r0 m0 := by
  refine dLof (cc := cL_clock) (maxL := 4) (ret := (some .int)) (hh := [(0, 6, 9, 13)]) _ (by decide) rfl (Nat.le_of_ble_eq_true rfl) ?_
  intro p e s mth below meth c S hr hlk htab hE H ls hP hS hl
  have S : CallFix p mth c cL_clock 4 s _ wsL_clock RL := S
  have hl : lv_has ls 4 [(0, .ref (dad g p0)), (1, .int p1), (2, .int p2)] := hl
  obtain ⟨locs, hlocs⟩ : ∃ z : List Loc, z = [] := ⟨_, rfl⟩
  rw [← hlocs] at hS ⊢
  unfold fL_clock at h
  obtain ⟨k0, h⟩ := d_g h
  have k0 := d_k k0
  refine lv_aload_n S.1 S.2.1 dL_clock_0 rfl (lv_at hl 0 rfl) ?_
  refine lv_iload_n S.1 S.2.1 dL_clock_1 rfl (lv_at hl 1 rfl) ?_
  refine lv_iload_n S.1 S.2.1 dL_clock_2 rfl (lv_at hl 2 rfl) ?_
  obtain ⟨q3, hc1, h⟩ := d_b h
  refine dxrv (o := q3) (vx_runV (As := [.int p1, .int p2]) (rest := []) S (kX11_clock l g hst hc1) (cwV 2 S.2.2.2.2 gL_clock_X11_clock rfl rfl rfl ynX11_clock ⟨Nat.le_of_ble_eq_true rfl, Nat.le_of_ble_eq_true rfl⟩) (dpV hE hP hS (ci := 11) rfl (dat12 k0)) rfl rfl hl.1 rfl (lv_room (Nat.le_of_ble_eq_true rfl)) dL_clock_3 ⟨Nat.le_of_ble_eq_true rfl, Nat.le_of_ble_eq_true rfl⟩) hS (fun u q9 ce H locs eo hP hS h1 h2 h3 => ?_) (fun m2 H locs eo hP hS => ?_)
  · subst eo
    have h := d_s1 h
    obtain ⟨kx, mx⟩ := u
    have h := d_p2 h
    have hP : va_P g.1 vwCl (dws g mx) H := hP
    have h3 : s.vm.findClass (dEx kx) = some ce.cls := h3
    by_cases hk0 : kx = 1
    · obtain rfl : kx = 1 := hk0
      have h := d_t (rfl : (1 : Nat) = 1) h
      refine vx_catch (E := dEx 1) (name := "java/lang/IllegalArgumentException") S.2.2.2.1 [] { startPc := 0, endPc := 6, handlerPc := 9, catchType := 13 } [] (htab.trans rfl) (fun z hz => by simp at hz) (by decide) (by decide) (S.2.2.2.2 (.classLink RL 13 "java/lang/IllegalArgumentException") (List.mem_of_getElem? (i := 1) rfl)) (va_Nw.use rfl (hE.2.2.2.2.2.2.2.2.1 "java/lang/IllegalArgumentException" (by decide))) h1 h2 h3 ?_
      refine W.eq (g2 := F0 mth 9 ls [.ref q9]) rfl ?_
      refine lv_astore_n (lv' := [(3, .ref q9), (0, .ref (dad g p0)), (1, .int p1), (2, .int p2)]) S.1 S.2.1 dL_clock_9 rfl hl (by decide) rfl (fun ls hl => ?_)
      refine lv_iconst (v := 1) S.1 S.2.1 dL_clock_10 (by decide) ?_
      obtain ⟨rfl, rfl⟩ := Prod.mk.inj (Option.some.inj h)
      exact dLti S hr hlk hE hP hS (Nat.le_of_ble_eq_true rfl) (Nat.le_of_ble_eq_true rfl) dL_clock_11
    · have h := d_f hk0 h
      cases h
  · subst eo
    have h := d_s2 h
    refine lv_goto (tgt := 12) S.1 S.2.1 dL_clock_6 (by decide) ?_
    refine lv_iconst (v := 0) S.1 S.2.1 dL_clock_12 (by decide) ?_
    obtain ⟨rfl, rfl⟩ := Prod.mk.inj (Option.some.inj h)
    exact dLti S hr hlk hE hP hS (Nat.le_of_ble_eq_true rfl) (Nat.le_of_ble_eq_true rfl) dL_clock_13
set_option maxRecDepth 20000 in
theorem ggL_judge_X11_judge : GoodIn wsL_judge wsX11_judge := goodIn_ca (goodIn_ca (goodIn_r _ [7, 8, 9, 10, 11, 6, 12, 13, 14, 15, 16, 17, 18, 19, 20, 21, 22, 23, 24, 25, 26, 27, 28, 29, 30, 31, 32, 33, 34, 35, 36, 37, 38, 39, 40, 41, 42, 43, 44, 45, 46, 47, 48, 49, 50, 51, 52, 53, 54, 55, 56, 57, 58, 59, 60, 61, 62, 63, 64, 65, 66, 67, 68, 69, 70, 71, 72, 73, 74, 75, 76, 77, 78, 79, 80, 81, 82, 83, 84, 85, 86, 87, 88, 89, 90, 91] (by decide +kernel) (by decide +kernel)) (goodIn_sub (fun _ h => List.mem_cons_of_mem _ (List.mem_append_left _ (List.mem_append_right _ h))) (by decide +kernel))) (goodIn_sub (fun _ h => List.mem_cons_of_mem _ (List.mem_append_right _ h)) (by decide +kernel))
set_option maxRecDepth 20000 in
theorem gL_judge_X11_judge : GoodIn wsL_judge (wsV RL 81 RX11 yX11_judge wsX11_judge) := goodIn_app (goodIn_of _ (by decide +kernel)) ggL_judge_X11_judge
theorem dL_judge_0 : decode cL_judge 0 = .ok (.aload 4, 2) := by decide +kernel
theorem dL_judge_2 : decode cL_judge 2 = .ok (.iconst 0, 1) := by decide +kernel
theorem dL_judge_3 : decode cL_judge 3 = .ok (.aload_n 0, 1) := by decide +kernel
theorem dL_judge_4 : decode cL_judge 4 = .ok (.iload_n 1, 1) := by decide +kernel
theorem dL_judge_5 : decode cL_judge 5 = .ok (.iload_n 2, 1) := by decide +kernel
theorem dL_judge_6 : decode cL_judge 6 = .ok (.iload_n 3, 1) := by decide +kernel
theorem dL_judge_7 : decode cL_judge 7 = .ok (.invokevirtual 81, 3) := by decide +kernel
theorem dL_judge_10 : decode cL_judge 10 = .ok (.i2l, 1) := by decide +kernel
theorem dL_judge_11 : decode cL_judge 11 = .ok (.lastore, 1) := by decide +kernel
theorem dL_judge_12 : decode cL_judge 12 = .ok (.goto 11, 3) := by decide +kernel
theorem dL_judge_15 : decode cL_judge 15 = .ok (.astore 5, 2) := by decide +kernel
theorem dL_judge_17 : decode cL_judge 17 = .ok (.iconst 1, 1) := by decide +kernel
theorem dL_judge_18 : decode cL_judge 18 = .ok (.ireturn, 1) := by decide +kernel
theorem dL_judge_19 : decode cL_judge 19 = .ok (.astore 5, 2) := by decide +kernel
theorem dL_judge_21 : decode cL_judge 21 = .ok (.iconst 2, 1) := by decide +kernel
theorem dL_judge_22 : decode cL_judge 22 = .ok (.ireturn, 1) := by decide +kernel
theorem dL_judge_23 : decode cL_judge 23 = .ok (.iconst 0, 1) := by decide +kernel
theorem dL_judge_24 : decode cL_judge 24 = .ok (.ireturn, 1) := by decide +kernel
def fL_judge (m : dM) (p0 : Nat) (p1 : Int32) (p2 : Int32) (p3 : Int32) (p4 : Nat) : Option (Int32 × dM) := dg (dkg p0 12) (dg (dkg p4 22) ((fX11_judge m p0 p1 p2 p3).bind (fun q => dS q (fun x => dP2 x (fun kx mx => if kx = 3 then some (1, mx) else if kx = 1 then some (2, mx) else none)) (fun q => dP2 q (fun v4 m2 => dg (dIx 0 (dL p4)) (dlet (d2 m2 p4 (Int32.toNatClampNeg (0)) (Int32.toInt64 v4)) (fun m5 => some (0, m5))))))))
set_option maxHeartbeats 4000000 in
set_option maxRecDepth 100000 in
theorem kL_judge (l : Launch) (g : dG) (hst : l.stackTraces = false) {m : dM} {p0 : Nat} {p1 : Int32} {p2 : Int32} {p3 : Int32} {p4 : Nat} {r0 : Int32} {m0 : dM} (h : fL_judge m p0 p1 p2 p3 p4 = some (r0, m0)) : dLMet l g yL_judge wsL_judge 8 135 3 [.ref (dad g p0), .int p1, .int p2, .int p3, .ref (dad g p4)] m r0 m0 := by
  refine dLof (cc := cL_judge) (maxL := 6) (ret := (some .int)) (hh := [(0, 12, 15, 21), (0, 12, 19, 13)]) _ (by decide) rfl (Nat.le_of_ble_eq_true rfl) ?_
  intro p e s mth below meth c S hr hlk htab hE H ls hP hS hl
  have S : CallFix p mth c cL_judge 6 s _ wsL_judge RL := S
  have hl : lv_has ls 6 [(0, .ref (dad g p0)), (1, .int p1), (2, .int p2), (3, .int p3), (4, .ref (dad g p4))] := hl
  obtain ⟨locs, hlocs⟩ : ∃ z : List Loc, z = [] := ⟨_, rfl⟩
  rw [← hlocs] at hS ⊢
  unfold fL_judge at h
  obtain ⟨k0, h⟩ := d_g h
  have k0 := d_k k0
  obtain ⟨k4, h⟩ := d_g h
  have k4 := d_k k4
  refine lv_aload S.1 S.2.1 dL_judge_0 (lv_at hl 4 rfl) ?_
  refine lv_iconst (v := 0) S.1 S.2.1 dL_judge_2 (by decide) ?_
  refine lv_aload_n S.1 S.2.1 dL_judge_3 rfl (lv_at hl 0 rfl) ?_
  refine lv_iload_n S.1 S.2.1 dL_judge_4 rfl (lv_at hl 1 rfl) ?_
  refine lv_iload_n S.1 S.2.1 dL_judge_5 rfl (lv_at hl 2 rfl) ?_
  refine lv_iload_n S.1 S.2.1 dL_judge_6 rfl (lv_at hl 3 rfl) ?_
  obtain ⟨q3, hc1, h⟩ := d_b h
  refine dxri (o := q3) (vx_runV (As := [.int p1, .int p2, .int p3]) (rest := [.int 0, .ref (dad g p4)]) S (kX11_judge l g hst hc1) (cwV 3 S.2.2.2.2 gL_judge_X11_judge rfl rfl rfl ynX11_judge ⟨Nat.le_of_ble_eq_true rfl, Nat.le_of_ble_eq_true rfl⟩) (dpV hE hP hS (ci := 11) rfl (dat12 k0)) rfl rfl hl.1 rfl (lv_room (Nat.le_of_ble_eq_true rfl)) dL_judge_7 ⟨Nat.le_of_ble_eq_true rfl, Nat.le_of_ble_eq_true rfl⟩) hS (fun u q9 ce H locs eo hP hS h1 h2 h3 => ?_) (fun v4 m2 H locs eo hP hS => ?_)
  · subst eo
    have h := d_s1 h
    obtain ⟨kx, mx⟩ := u
    have h := d_p2 h
    have hP : va_P g.1 vwCl (dws g mx) H := hP
    have h3 : s.vm.findClass (dEx kx) = some ce.cls := h3
    by_cases hk0 : kx = 3
    · obtain rfl : kx = 3 := hk0
      have h := d_t (rfl : (3 : Nat) = 3) h
      refine vx_catch (E := dEx 3) (name := "java/lang/IndexOutOfBoundsException") S.2.2.2.1 [] { startPc := 0, endPc := 12, handlerPc := 15, catchType := 21 } [{ startPc := 0, endPc := 12, handlerPc := 19, catchType := 13 }] (htab.trans rfl) (fun z hz => by simp at hz) (by decide) (by decide) (S.2.2.2.2 (.classLink RL 21 "java/lang/IndexOutOfBoundsException") (List.mem_of_getElem? (i := 1) rfl)) (va_Nw.use rfl (hE.2.2.2.2.2.2.2.2.1 "java/lang/IndexOutOfBoundsException" (by decide))) h1 h2 h3 ?_
      refine W.eq (g2 := F0 mth 15 ls [.ref q9]) rfl ?_
      refine lv_astore (lv' := [(5, .ref q9), (0, .ref (dad g p0)), (1, .int p1), (2, .int p2), (3, .int p3), (4, .ref (dad g p4))]) S.1 S.2.1 dL_judge_15 hl (by decide) rfl (fun ls hl => ?_)
      refine lv_iconst (v := 1) S.1 S.2.1 dL_judge_17 (by decide) ?_
      obtain ⟨rfl, rfl⟩ := Prod.mk.inj (Option.some.inj h)
      exact dLti S hr hlk hE hP hS (Nat.le_of_ble_eq_true rfl) (Nat.le_of_ble_eq_true rfl) dL_judge_18
    · have h := d_f hk0 h
      by_cases hk1 : kx = 1
      · obtain rfl : kx = 1 := hk1
        have h := d_t (rfl : (1 : Nat) = 1) h
        refine vx_catch (E := dEx 1) (name := "java/lang/IllegalArgumentException") S.2.2.2.1 [{ startPc := 0, endPc := 12, handlerPc := 15, catchType := 21 }] { startPc := 0, endPc := 12, handlerPc := 19, catchType := 13 } [] (htab.trans rfl) (fun z hz => by simp only [List.mem_cons, List.not_mem_nil, or_false] at hz; subst hz; exact Or.inr ⟨by decide, "java/lang/IndexOutOfBoundsException", S.2.2.2.2 (.classLink RL 21 "java/lang/IndexOutOfBoundsException") (List.mem_of_getElem? (i := 1) rfl), hE.2.2.2.2.2.2.2.2.2 (dEx 1) (by decide) "java/lang/IndexOutOfBoundsException" (by decide) (by decide)⟩) (by decide) (by decide) (S.2.2.2.2 (.classLink RL 13 "java/lang/IllegalArgumentException") (List.mem_of_getElem? (i := 2) rfl)) (va_Nw.use rfl (hE.2.2.2.2.2.2.2.2.1 "java/lang/IllegalArgumentException" (by decide))) h1 h2 h3 ?_
        refine W.eq (g2 := F0 mth 19 ls [.ref q9]) rfl ?_
        refine lv_astore (lv' := [(5, .ref q9), (0, .ref (dad g p0)), (1, .int p1), (2, .int p2), (3, .int p3), (4, .ref (dad g p4))]) S.1 S.2.1 dL_judge_19 hl (by decide) rfl (fun ls hl => ?_)
        refine lv_iconst (v := 2) S.1 S.2.1 dL_judge_21 (by decide) ?_
        obtain ⟨rfl, rfl⟩ := Prod.mk.inj (Option.some.inj h)
        exact dLti S hr hlk hE hP hS (Nat.le_of_ble_eq_true rfl) (Nat.le_of_ble_eq_true rfl) dL_judge_22
      · have h := d_f hk1 h
        cases h
  · subst eo
    have h := d_s2 h
    have h := d_p2 h
    refine lv_i2l S.1 S.2.1 dL_judge_10 rfl ?_
    obtain ⟨hi, h⟩ := d_g h
    refine d_last S hE hP hS k4 hi dL_judge_11 (fun H locs hP hS => ?_)
    obtain ⟨m5, em5⟩ : ∃ z : dM, z = d2 m2 p4 (Int32.toNatClampNeg (0)) (Int32.toInt64 v4) := ⟨_, rfl⟩
    have h := d_let em5 h
    rw [← em5] at hP
    refine lv_goto (tgt := 23) S.1 S.2.1 dL_judge_12 (by decide) ?_
    refine lv_iconst (v := 0) S.1 S.2.1 dL_judge_23 (by decide) ?_
    obtain ⟨rfl, rfl⟩ := Prod.mk.inj (Option.some.inj h)
    exact dLti S hr hlk hE hP hS (Nat.le_of_ble_eq_true rfl) (Nat.le_of_ble_eq_true rfl) dL_judge_24
set_option maxRecDepth 20000 in
theorem ggL_penalty_X11_penalty : GoodIn wsL_penalty wsX11_penalty := goodIn_ca (goodIn_ca (goodIn_r _ [7, 8, 9, 10, 11, 6, 12, 13, 14, 15, 16, 17, 18, 19, 20, 21, 22, 23, 24, 25, 26, 27, 28, 29, 30, 31, 32, 33, 34, 35, 36, 37, 38, 39, 40, 41, 42, 43, 44, 45, 46, 47, 48, 49, 50, 51, 52, 53, 54, 55, 56, 57, 58, 59, 60, 61, 62, 63, 64, 65, 66, 67, 68, 69, 70, 71, 72, 73, 74, 75, 76, 77, 78, 79, 80, 81, 82, 83, 84, 85, 86, 87, 88, 89, 90, 91] (by decide +kernel) (by decide +kernel)) (goodIn_sub (fun _ h => List.mem_cons_of_mem _ (List.mem_append_left _ (List.mem_append_right _ h))) (by decide +kernel))) (goodIn_sub (fun _ h => List.mem_cons_of_mem _ (List.mem_append_right _ h)) (by decide +kernel))
set_option maxRecDepth 20000 in
theorem gL_penalty_X11_penalty : GoodIn wsL_penalty (wsV RL 84 RX11 yX11_penalty wsX11_penalty) := goodIn_app (goodIn_of _ (by decide +kernel)) ggL_penalty_X11_penalty
theorem dL_penalty_0 : decode cL_penalty 0 = .ok (.aload_n 3, 1) := by decide +kernel
theorem dL_penalty_1 : decode cL_penalty 1 = .ok (.iconst 0, 1) := by decide +kernel
theorem dL_penalty_2 : decode cL_penalty 2 = .ok (.aload_n 0, 1) := by decide +kernel
theorem dL_penalty_3 : decode cL_penalty 3 = .ok (.iload_n 1, 1) := by decide +kernel
theorem dL_penalty_4 : decode cL_penalty 4 = .ok (.iload_n 2, 1) := by decide +kernel
theorem dL_penalty_5 : decode cL_penalty 5 = .ok (.invokevirtual 84, 3) := by decide +kernel
theorem dL_penalty_8 : decode cL_penalty 8 = .ok (.i2l, 1) := by decide +kernel
theorem dL_penalty_9 : decode cL_penalty 9 = .ok (.lastore, 1) := by decide +kernel
theorem dL_penalty_10 : decode cL_penalty 10 = .ok (.goto 11, 3) := by decide +kernel
theorem dL_penalty_13 : decode cL_penalty 13 = .ok (.astore 4, 2) := by decide +kernel
theorem dL_penalty_15 : decode cL_penalty 15 = .ok (.iconst 1, 1) := by decide +kernel
theorem dL_penalty_16 : decode cL_penalty 16 = .ok (.ireturn, 1) := by decide +kernel
theorem dL_penalty_17 : decode cL_penalty 17 = .ok (.astore 4, 2) := by decide +kernel
theorem dL_penalty_19 : decode cL_penalty 19 = .ok (.iconst 2, 1) := by decide +kernel
theorem dL_penalty_20 : decode cL_penalty 20 = .ok (.ireturn, 1) := by decide +kernel
theorem dL_penalty_21 : decode cL_penalty 21 = .ok (.iconst 0, 1) := by decide +kernel
theorem dL_penalty_22 : decode cL_penalty 22 = .ok (.ireturn, 1) := by decide +kernel
def fL_penalty (m : dM) (p0 : Nat) (p1 : Int32) (p2 : Int32) (p3 : Nat) : Option (Int32 × dM) := dg (dkg p0 12) (dg (dkg p3 22) ((fX11_penalty m p0 p1 p2).bind (fun q => dS q (fun x => dP2 x (fun kx mx => if kx = 3 then some (1, mx) else if kx = 1 then some (2, mx) else none)) (fun q => dP2 q (fun v4 m2 => dg (dIx 0 (dL p3)) (dlet (d2 m2 p3 (Int32.toNatClampNeg (0)) (Int32.toInt64 v4)) (fun m5 => some (0, m5))))))))
set_option maxHeartbeats 4000000 in
set_option maxRecDepth 100000 in
theorem kL_penalty (l : Launch) (g : dG) (hst : l.stackTraces = false) {m : dM} {p0 : Nat} {p1 : Int32} {p2 : Int32} {p3 : Nat} {r0 : Int32} {m0 : dM} (h : fL_penalty m p0 p1 p2 p3 = some (r0, m0)) : dLMet l g yL_penalty wsL_penalty 8 134 2 [.ref (dad g p0), .int p1, .int p2, .ref (dad g p3)] m r0 m0 := by
  refine dLof (cc := cL_penalty) (maxL := 5) (ret := (some .int)) (hh := [(0, 10, 13, 21), (0, 10, 17, 13)]) _ (by decide) rfl (Nat.le_of_ble_eq_true rfl) ?_
  intro p e s mth below meth c S hr hlk htab hE H ls hP hS hl
  have S : CallFix p mth c cL_penalty 5 s _ wsL_penalty RL := S
  have hl : lv_has ls 5 [(0, .ref (dad g p0)), (1, .int p1), (2, .int p2), (3, .ref (dad g p3))] := hl
  obtain ⟨locs, hlocs⟩ : ∃ z : List Loc, z = [] := ⟨_, rfl⟩
  rw [← hlocs] at hS ⊢
  unfold fL_penalty at h
  obtain ⟨k0, h⟩ := d_g h
  have k0 := d_k k0
  obtain ⟨k3, h⟩ := d_g h
  have k3 := d_k k3
  refine lv_aload_n S.1 S.2.1 dL_penalty_0 rfl (lv_at hl 3 rfl) ?_
  refine lv_iconst (v := 0) S.1 S.2.1 dL_penalty_1 (by decide) ?_
  refine lv_aload_n S.1 S.2.1 dL_penalty_2 rfl (lv_at hl 0 rfl) ?_
  refine lv_iload_n S.1 S.2.1 dL_penalty_3 rfl (lv_at hl 1 rfl) ?_
  refine lv_iload_n S.1 S.2.1 dL_penalty_4 rfl (lv_at hl 2 rfl) ?_
  obtain ⟨q3, hc1, h⟩ := d_b h
  refine dxri (o := q3) (vx_runV (As := [.int p1, .int p2]) (rest := [.int 0, .ref (dad g p3)]) S (kX11_penalty l g hst hc1) (cwV 2 S.2.2.2.2 gL_penalty_X11_penalty rfl rfl rfl ynX11_penalty ⟨Nat.le_of_ble_eq_true rfl, Nat.le_of_ble_eq_true rfl⟩) (dpV hE hP hS (ci := 11) rfl (dat12 k0)) rfl rfl hl.1 rfl (lv_room (Nat.le_of_ble_eq_true rfl)) dL_penalty_5 ⟨Nat.le_of_ble_eq_true rfl, Nat.le_of_ble_eq_true rfl⟩) hS (fun u q9 ce H locs eo hP hS h1 h2 h3 => ?_) (fun v4 m2 H locs eo hP hS => ?_)
  · subst eo
    have h := d_s1 h
    obtain ⟨kx, mx⟩ := u
    have h := d_p2 h
    have hP : va_P g.1 vwCl (dws g mx) H := hP
    have h3 : s.vm.findClass (dEx kx) = some ce.cls := h3
    by_cases hk0 : kx = 3
    · obtain rfl : kx = 3 := hk0
      have h := d_t (rfl : (3 : Nat) = 3) h
      refine vx_catch (E := dEx 3) (name := "java/lang/IndexOutOfBoundsException") S.2.2.2.1 [] { startPc := 0, endPc := 10, handlerPc := 13, catchType := 21 } [{ startPc := 0, endPc := 10, handlerPc := 17, catchType := 13 }] (htab.trans rfl) (fun z hz => by simp at hz) (by decide) (by decide) (S.2.2.2.2 (.classLink RL 21 "java/lang/IndexOutOfBoundsException") (List.mem_of_getElem? (i := 1) rfl)) (va_Nw.use rfl (hE.2.2.2.2.2.2.2.2.1 "java/lang/IndexOutOfBoundsException" (by decide))) h1 h2 h3 ?_
      refine W.eq (g2 := F0 mth 13 ls [.ref q9]) rfl ?_
      refine lv_astore (lv' := [(4, .ref q9), (0, .ref (dad g p0)), (1, .int p1), (2, .int p2), (3, .ref (dad g p3))]) S.1 S.2.1 dL_penalty_13 hl (by decide) rfl (fun ls hl => ?_)
      refine lv_iconst (v := 1) S.1 S.2.1 dL_penalty_15 (by decide) ?_
      obtain ⟨rfl, rfl⟩ := Prod.mk.inj (Option.some.inj h)
      exact dLti S hr hlk hE hP hS (Nat.le_of_ble_eq_true rfl) (Nat.le_of_ble_eq_true rfl) dL_penalty_16
    · have h := d_f hk0 h
      by_cases hk1 : kx = 1
      · obtain rfl : kx = 1 := hk1
        have h := d_t (rfl : (1 : Nat) = 1) h
        refine vx_catch (E := dEx 1) (name := "java/lang/IllegalArgumentException") S.2.2.2.1 [{ startPc := 0, endPc := 10, handlerPc := 13, catchType := 21 }] { startPc := 0, endPc := 10, handlerPc := 17, catchType := 13 } [] (htab.trans rfl) (fun z hz => by simp only [List.mem_cons, List.not_mem_nil, or_false] at hz; subst hz; exact Or.inr ⟨by decide, "java/lang/IndexOutOfBoundsException", S.2.2.2.2 (.classLink RL 21 "java/lang/IndexOutOfBoundsException") (List.mem_of_getElem? (i := 1) rfl), hE.2.2.2.2.2.2.2.2.2 (dEx 1) (by decide) "java/lang/IndexOutOfBoundsException" (by decide) (by decide)⟩) (by decide) (by decide) (S.2.2.2.2 (.classLink RL 13 "java/lang/IllegalArgumentException") (List.mem_of_getElem? (i := 2) rfl)) (va_Nw.use rfl (hE.2.2.2.2.2.2.2.2.1 "java/lang/IllegalArgumentException" (by decide))) h1 h2 h3 ?_
        refine W.eq (g2 := F0 mth 17 ls [.ref q9]) rfl ?_
        refine lv_astore (lv' := [(4, .ref q9), (0, .ref (dad g p0)), (1, .int p1), (2, .int p2), (3, .ref (dad g p3))]) S.1 S.2.1 dL_penalty_17 hl (by decide) rfl (fun ls hl => ?_)
        refine lv_iconst (v := 2) S.1 S.2.1 dL_penalty_19 (by decide) ?_
        obtain ⟨rfl, rfl⟩ := Prod.mk.inj (Option.some.inj h)
        exact dLti S hr hlk hE hP hS (Nat.le_of_ble_eq_true rfl) (Nat.le_of_ble_eq_true rfl) dL_penalty_20
      · have h := d_f hk1 h
        cases h
  · subst eo
    have h := d_s2 h
    have h := d_p2 h
    refine lv_i2l S.1 S.2.1 dL_penalty_8 rfl ?_
    obtain ⟨hi, h⟩ := d_g h
    refine d_last S hE hP hS k3 hi dL_penalty_9 (fun H locs hP hS => ?_)
    obtain ⟨m5, em5⟩ : ∃ z : dM, z = d2 m2 p3 (Int32.toNatClampNeg (0)) (Int32.toInt64 v4) := ⟨_, rfl⟩
    have h := d_let em5 h
    rw [← em5] at hP
    refine lv_goto (tgt := 21) S.1 S.2.1 dL_penalty_10 (by decide) ?_
    refine lv_iconst (v := 0) S.1 S.2.1 dL_penalty_21 (by decide) ?_
    obtain ⟨rfl, rfl⟩ := Prod.mk.inj (Option.some.inj h)
    exact dLti S hr hlk hE hP hS (Nat.le_of_ble_eq_true rfl) (Nat.le_of_ble_eq_true rfl) dL_penalty_22
set_option maxRecDepth 20000 in
theorem ggL_ranked_X11_ranked : GoodIn wsL_ranked wsX11_ranked := goodIn_ca (goodIn_r _ [6, 7, 8, 9, 10, 5, 11, 12, 13, 14, 15, 16, 17, 18, 19, 20, 21, 22, 23, 24, 25, 26, 27, 28, 29, 30, 31, 32, 33, 34, 35, 36, 37, 38, 39, 40, 41, 42, 43, 44, 45, 46, 47, 48, 49, 50, 51, 52, 53, 54, 55, 56, 57, 58, 59, 60, 61, 62, 63, 64, 65, 66, 67, 68, 69, 70, 71, 72, 73, 74, 75, 76, 77, 78, 79, 80, 81, 82, 83, 84, 85, 86, 87, 88, 89, 90, 91, 92, 93] (by decide +kernel) (by decide +kernel)) (goodIn_sub (fun _ h => List.mem_cons_of_mem _ (List.mem_append_right _ h)) (by decide +kernel))
set_option maxRecDepth 20000 in
theorem gL_ranked_X11_ranked : GoodIn wsL_ranked (wsV RL 87 RX11 yX11_ranked wsX11_ranked) := goodIn_app (goodIn_of _ (by decide +kernel)) ggL_ranked_X11_ranked
theorem dL_ranked_0 : decode cL_ranked 0 = .ok (.aload_n 2, 1) := by decide +kernel
theorem dL_ranked_1 : decode cL_ranked 1 = .ok (.iconst 0, 1) := by decide +kernel
theorem dL_ranked_2 : decode cL_ranked 2 = .ok (.aload_n 0, 1) := by decide +kernel
theorem dL_ranked_3 : decode cL_ranked 3 = .ok (.iload_n 1, 1) := by decide +kernel
theorem dL_ranked_4 : decode cL_ranked 4 = .ok (.invokevirtual 87, 3) := by decide +kernel
theorem dL_ranked_7 : decode cL_ranked 7 = .ok (.i2l, 1) := by decide +kernel
theorem dL_ranked_8 : decode cL_ranked 8 = .ok (.lastore, 1) := by decide +kernel
theorem dL_ranked_9 : decode cL_ranked 9 = .ok (.goto 6, 3) := by decide +kernel
theorem dL_ranked_12 : decode cL_ranked 12 = .ok (.astore_n 3, 1) := by decide +kernel
theorem dL_ranked_13 : decode cL_ranked 13 = .ok (.iconst 1, 1) := by decide +kernel
theorem dL_ranked_14 : decode cL_ranked 14 = .ok (.ireturn, 1) := by decide +kernel
theorem dL_ranked_15 : decode cL_ranked 15 = .ok (.iconst 0, 1) := by decide +kernel
theorem dL_ranked_16 : decode cL_ranked 16 = .ok (.ireturn, 1) := by decide +kernel
def fL_ranked (m : dM) (p0 : Nat) (p1 : Int32) (p2 : Nat) : Option (Int32 × dM) := dg (dkg p0 12) (dg (dkg p2 22) ((fX11_ranked m p0 p1).bind (fun q => dS q (fun x => dP2 x (fun kx mx => if kx = 1 then some (1, mx) else none)) (fun q => dP2 q (fun v4 m2 => dg (dIx 0 (dL p2)) (dlet (d2 m2 p2 (Int32.toNatClampNeg (0)) (Int32.toInt64 v4)) (fun m5 => some (0, m5))))))))
set_option maxHeartbeats 4000000 in
set_option maxRecDepth 100000 in
theorem kL_ranked (l : Launch) (g : dG) (hst : l.stackTraces = false) {m : dM} {p0 : Nat} {p1 : Int32} {p2 : Nat} {r0 : Int32} {m0 : dM} (h : fL_ranked m p0 p1 p2 = some (r0, m0)) : dLMet l g yL_ranked wsL_ranked 8 160 1 [.ref (dad g p0), .int p1, .ref (dad g p2)] m r0 m0 := by
  refine dLof (cc := cL_ranked) (maxL := 4) (ret := (some .int)) (hh := [(0, 9, 12, 13)]) _ (by decide) rfl (Nat.le_of_ble_eq_true rfl) ?_
  intro p e s mth below meth c S hr hlk htab hE H ls hP hS hl
  have S : CallFix p mth c cL_ranked 4 s _ wsL_ranked RL := S
  have hl : lv_has ls 4 [(0, .ref (dad g p0)), (1, .int p1), (2, .ref (dad g p2))] := hl
  obtain ⟨locs, hlocs⟩ : ∃ z : List Loc, z = [] := ⟨_, rfl⟩
  rw [← hlocs] at hS ⊢
  unfold fL_ranked at h
  obtain ⟨k0, h⟩ := d_g h
  have k0 := d_k k0
  obtain ⟨k2, h⟩ := d_g h
  have k2 := d_k k2
  refine lv_aload_n S.1 S.2.1 dL_ranked_0 rfl (lv_at hl 2 rfl) ?_
  refine lv_iconst (v := 0) S.1 S.2.1 dL_ranked_1 (by decide) ?_
  refine lv_aload_n S.1 S.2.1 dL_ranked_2 rfl (lv_at hl 0 rfl) ?_
  refine lv_iload_n S.1 S.2.1 dL_ranked_3 rfl (lv_at hl 1 rfl) ?_
  obtain ⟨q3, hc1, h⟩ := d_b h
  refine dxri (o := q3) (vx_runV (As := [.int p1]) (rest := [.int 0, .ref (dad g p2)]) S (kX11_ranked l g hst hc1) (cwV 1 S.2.2.2.2 gL_ranked_X11_ranked rfl rfl rfl ynX11_ranked ⟨Nat.le_of_ble_eq_true rfl, Nat.le_of_ble_eq_true rfl⟩) (dpV hE hP hS (ci := 11) rfl (dat12 k0)) rfl rfl hl.1 rfl (lv_room (Nat.le_of_ble_eq_true rfl)) dL_ranked_4 ⟨Nat.le_of_ble_eq_true rfl, Nat.le_of_ble_eq_true rfl⟩) hS (fun u q9 ce H locs eo hP hS h1 h2 h3 => ?_) (fun v4 m2 H locs eo hP hS => ?_)
  · subst eo
    have h := d_s1 h
    obtain ⟨kx, mx⟩ := u
    have h := d_p2 h
    have hP : va_P g.1 vwCl (dws g mx) H := hP
    have h3 : s.vm.findClass (dEx kx) = some ce.cls := h3
    by_cases hk0 : kx = 1
    · obtain rfl : kx = 1 := hk0
      have h := d_t (rfl : (1 : Nat) = 1) h
      refine vx_catch (E := dEx 1) (name := "java/lang/IllegalArgumentException") S.2.2.2.1 [] { startPc := 0, endPc := 9, handlerPc := 12, catchType := 13 } [] (htab.trans rfl) (fun z hz => by simp at hz) (by decide) (by decide) (S.2.2.2.2 (.classLink RL 13 "java/lang/IllegalArgumentException") (List.mem_of_getElem? (i := 1) rfl)) (va_Nw.use rfl (hE.2.2.2.2.2.2.2.2.1 "java/lang/IllegalArgumentException" (by decide))) h1 h2 h3 ?_
      refine W.eq (g2 := F0 mth 12 ls [.ref q9]) rfl ?_
      refine lv_astore_n (lv' := [(3, .ref q9), (0, .ref (dad g p0)), (1, .int p1), (2, .ref (dad g p2))]) S.1 S.2.1 dL_ranked_12 rfl hl (by decide) rfl (fun ls hl => ?_)
      refine lv_iconst (v := 1) S.1 S.2.1 dL_ranked_13 (by decide) ?_
      obtain ⟨rfl, rfl⟩ := Prod.mk.inj (Option.some.inj h)
      exact dLti S hr hlk hE hP hS (Nat.le_of_ble_eq_true rfl) (Nat.le_of_ble_eq_true rfl) dL_ranked_14
    · have h := d_f hk0 h
      cases h
  · subst eo
    have h := d_s2 h
    have h := d_p2 h
    refine lv_i2l S.1 S.2.1 dL_ranked_7 rfl ?_
    obtain ⟨hi, h⟩ := d_g h
    refine d_last S hE hP hS k2 hi dL_ranked_8 (fun H locs hP hS => ?_)
    obtain ⟨m5, em5⟩ : ∃ z : dM, z = d2 m2 p2 (Int32.toNatClampNeg (0)) (Int32.toInt64 v4) := ⟨_, rfl⟩
    have h := d_let em5 h
    rw [← em5] at hP
    refine lv_goto (tgt := 15) S.1 S.2.1 dL_ranked_9 (by decide) ?_
    refine lv_iconst (v := 0) S.1 S.2.1 dL_ranked_15 (by decide) ?_
    obtain ⟨rfl, rfl⟩ := Prod.mk.inj (Option.some.inj h)
    exact dLti S hr hlk hE hP hS (Nat.le_of_ble_eq_true rfl) (Nat.le_of_ble_eq_true rfl) dL_ranked_16
set_option maxRecDepth 20000 in
theorem ggL_rehearse_X11_rehearse : GoodIn wsL_rehearse wsX11_rehearse := goodIn_ca (goodIn_r _ [6, 7, 8, 5, 9, 10, 11, 12, 13, 14, 15, 16, 17, 18, 19, 20, 21, 22, 23, 24] (by decide +kernel) (by decide +kernel)) (goodIn_sub (fun _ h => List.mem_cons_of_mem _ (List.mem_append_right _ h)) (by decide +kernel))
set_option maxRecDepth 20000 in
theorem gL_rehearse_X11_rehearse : GoodIn wsL_rehearse (wsV RL 91 RX11 yX11_rehearse wsX11_rehearse) := goodIn_app (goodIn_of _ (by decide +kernel)) ggL_rehearse_X11_rehearse
theorem dL_rehearse_0 : decode cL_rehearse 0 = .ok (.aload_n 3, 1) := by decide +kernel
theorem dL_rehearse_1 : decode cL_rehearse 1 = .ok (.iconst 0, 1) := by decide +kernel
theorem dL_rehearse_2 : decode cL_rehearse 2 = .ok (.aload_n 0, 1) := by decide +kernel
theorem dL_rehearse_3 : decode cL_rehearse 3 = .ok (.iload_n 1, 1) := by decide +kernel
theorem dL_rehearse_4 : decode cL_rehearse 4 = .ok (.iload_n 2, 1) := by decide +kernel
theorem dL_rehearse_5 : decode cL_rehearse 5 = .ok (.invokevirtual 91, 3) := by decide +kernel
theorem dL_rehearse_8 : decode cL_rehearse 8 = .ok (.i2l, 1) := by decide +kernel
theorem dL_rehearse_9 : decode cL_rehearse 9 = .ok (.lastore, 1) := by decide +kernel
theorem dL_rehearse_10 : decode cL_rehearse 10 = .ok (.goto 7, 3) := by decide +kernel
theorem dL_rehearse_13 : decode cL_rehearse 13 = .ok (.astore 4, 2) := by decide +kernel
theorem dL_rehearse_15 : decode cL_rehearse 15 = .ok (.iconst 1, 1) := by decide +kernel
theorem dL_rehearse_16 : decode cL_rehearse 16 = .ok (.ireturn, 1) := by decide +kernel
theorem dL_rehearse_17 : decode cL_rehearse 17 = .ok (.iconst 0, 1) := by decide +kernel
theorem dL_rehearse_18 : decode cL_rehearse 18 = .ok (.ireturn, 1) := by decide +kernel
def fL_rehearse (m : dM) (p0 : Nat) (p1 : Int32) (p2 : Int32) (p3 : Nat) : Option (Int32 × dM) := dg (dkg p0 12) (dg (dkg p3 22) ((fX11_rehearse m p0 p1 p2).bind (fun q => dS q (fun x => dP2 x (fun kx mx => if kx = 1 then some (1, mx) else none)) (fun q => dP2 q (fun v4 m2 => dg (dIx 0 (dL p3)) (dlet (d2 m2 p3 (Int32.toNatClampNeg (0)) (Int32.toInt64 v4)) (fun m5 => some (0, m5))))))))
set_option maxHeartbeats 4000000 in
set_option maxRecDepth 100000 in
theorem kL_rehearse (l : Launch) (g : dG) (hst : l.stackTraces = false) {m : dM} {p0 : Nat} {p1 : Int32} {p2 : Int32} {p3 : Nat} {r0 : Int32} {m0 : dM} (h : fL_rehearse m p0 p1 p2 p3 = some (r0, m0)) : dLMet l g yL_rehearse wsL_rehearse 8 134 2 [.ref (dad g p0), .int p1, .int p2, .ref (dad g p3)] m r0 m0 := by
  refine dLof (cc := cL_rehearse) (maxL := 5) (ret := (some .int)) (hh := [(0, 10, 13, 13)]) _ (by decide) rfl (Nat.le_of_ble_eq_true rfl) ?_
  intro p e s mth below meth c S hr hlk htab hE H ls hP hS hl
  have S : CallFix p mth c cL_rehearse 5 s _ wsL_rehearse RL := S
  have hl : lv_has ls 5 [(0, .ref (dad g p0)), (1, .int p1), (2, .int p2), (3, .ref (dad g p3))] := hl
  obtain ⟨locs, hlocs⟩ : ∃ z : List Loc, z = [] := ⟨_, rfl⟩
  rw [← hlocs] at hS ⊢
  unfold fL_rehearse at h
  obtain ⟨k0, h⟩ := d_g h
  have k0 := d_k k0
  obtain ⟨k3, h⟩ := d_g h
  have k3 := d_k k3
  refine lv_aload_n S.1 S.2.1 dL_rehearse_0 rfl (lv_at hl 3 rfl) ?_
  refine lv_iconst (v := 0) S.1 S.2.1 dL_rehearse_1 (by decide) ?_
  refine lv_aload_n S.1 S.2.1 dL_rehearse_2 rfl (lv_at hl 0 rfl) ?_
  refine lv_iload_n S.1 S.2.1 dL_rehearse_3 rfl (lv_at hl 1 rfl) ?_
  refine lv_iload_n S.1 S.2.1 dL_rehearse_4 rfl (lv_at hl 2 rfl) ?_
  obtain ⟨q3, hc1, h⟩ := d_b h
  refine dxri (o := q3) (vx_runV (As := [.int p1, .int p2]) (rest := [.int 0, .ref (dad g p3)]) S (kX11_rehearse l g hst hc1) (cwV 2 S.2.2.2.2 gL_rehearse_X11_rehearse rfl rfl rfl ynX11_rehearse ⟨Nat.le_of_ble_eq_true rfl, Nat.le_of_ble_eq_true rfl⟩) (dpV hE hP hS (ci := 11) rfl (dat12 k0)) rfl rfl hl.1 rfl (lv_room (Nat.le_of_ble_eq_true rfl)) dL_rehearse_5 ⟨Nat.le_of_ble_eq_true rfl, Nat.le_of_ble_eq_true rfl⟩) hS (fun u q9 ce H locs eo hP hS h1 h2 h3 => ?_) (fun v4 m2 H locs eo hP hS => ?_)
  · subst eo
    have h := d_s1 h
    obtain ⟨kx, mx⟩ := u
    have h := d_p2 h
    have hP : va_P g.1 vwCl (dws g mx) H := hP
    have h3 : s.vm.findClass (dEx kx) = some ce.cls := h3
    by_cases hk0 : kx = 1
    · obtain rfl : kx = 1 := hk0
      have h := d_t (rfl : (1 : Nat) = 1) h
      refine vx_catch (E := dEx 1) (name := "java/lang/IllegalArgumentException") S.2.2.2.1 [] { startPc := 0, endPc := 10, handlerPc := 13, catchType := 13 } [] (htab.trans rfl) (fun z hz => by simp at hz) (by decide) (by decide) (S.2.2.2.2 (.classLink RL 13 "java/lang/IllegalArgumentException") (List.mem_of_getElem? (i := 1) rfl)) (va_Nw.use rfl (hE.2.2.2.2.2.2.2.2.1 "java/lang/IllegalArgumentException" (by decide))) h1 h2 h3 ?_
      refine W.eq (g2 := F0 mth 13 ls [.ref q9]) rfl ?_
      refine lv_astore (lv' := [(4, .ref q9), (0, .ref (dad g p0)), (1, .int p1), (2, .int p2), (3, .ref (dad g p3))]) S.1 S.2.1 dL_rehearse_13 hl (by decide) rfl (fun ls hl => ?_)
      refine lv_iconst (v := 1) S.1 S.2.1 dL_rehearse_15 (by decide) ?_
      obtain ⟨rfl, rfl⟩ := Prod.mk.inj (Option.some.inj h)
      exact dLti S hr hlk hE hP hS (Nat.le_of_ble_eq_true rfl) (Nat.le_of_ble_eq_true rfl) dL_rehearse_16
    · have h := d_f hk0 h
      cases h
  · subst eo
    have h := d_s2 h
    have h := d_p2 h
    refine lv_i2l S.1 S.2.1 dL_rehearse_8 rfl ?_
    obtain ⟨hi, h⟩ := d_g h
    refine d_last S hE hP hS k3 hi dL_rehearse_9 (fun H locs hP hS => ?_)
    obtain ⟨m5, em5⟩ : ∃ z : dM, z = d2 m2 p3 (Int32.toNatClampNeg (0)) (Int32.toInt64 v4) := ⟨_, rfl⟩
    have h := d_let em5 h
    rw [← em5] at hP
    refine lv_goto (tgt := 17) S.1 S.2.1 dL_rehearse_10 (by decide) ?_
    refine lv_iconst (v := 0) S.1 S.2.1 dL_rehearse_17 (by decide) ?_
    obtain ⟨rfl, rfl⟩ := Prod.mk.inj (Option.some.inj h)
    exact dLti S hr hlk hE hP hS (Nat.le_of_ble_eq_true rfl) (Nat.le_of_ble_eq_true rfl) dL_rehearse_18
