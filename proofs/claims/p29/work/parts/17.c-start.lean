theorem exactly_str {args : Array Value} {s : State} {k : Nat} {tx : String} (h1 : (Cond.stringRef "DrillField" k tx).before args s = true) (h2 : (Cond.exactly (.string "DrillField" k) "java/lang/String").before args s = true) : ∃ sa, vk_R "DrillField" k tx sa s := by
  obtain ⟨a, c, cell, kk, q1, -⟩ := Cond.exactly_spec h2
  exact ⟨a, vk_R.of h1 q1⟩
theorem arr_ty {args : Array Value} {s : State} {ty : FieldType} (hty : ∀ C, ty ≠ .object C) (h : (Cond.arrayClass ty).before args s = true) : ∃ cA, ArrOfT s cA ty ∧ va_RA s cA ty := by
  obtain ⟨cA, kA, comp, h1, h2, h3⟩ := Cond.arrayClass_spec h
  refine ⟨cA, fun n z => ⟨fun k h => absurd h (by simp [arrV, vp_cell]), kA, h2, comp, h3⟩, ?_⟩
  cases ty with
  | object C => exact absurd rfl (hty C)
  | _ => exact h1
theorem arr_obj {args : Array Value} {s : State} {C : String} (h : (Cond.arrayOver (.object C)).before args s = true) : ∃ cA, ArrOfT s cA (.object C) ∧ va_RA s cA (.object C) := by
  obtain ⟨comp, cA, kA, h1, -, h2, h3, h4⟩ := Cond.arrayOver_spec h
  exact ⟨cA, fun n z => ⟨fun k h => absurd h (by simp [arrV, vp_cell]), kA, h2, comp, h3⟩, kA, comp, h2, h3, h1, h4⟩
theorem arr_arr {args : Array Value} {s : State} {t : FieldType} (h : (Cond.arrayOver (.array t)).before args s = true) : ∃ cA, ArrOfT s cA (.array t) ∧ va_RA s cA (.array t) := by
  obtain ⟨comp, cA, kA, h1, h2, h3, h4⟩ := Cond.arrayOver_specA h
  exact ⟨cA, fun n z => ⟨fun k h => absurd h (by simp [arrV, vp_cell]), kA, h2, comp, h3⟩, h4⟩
set_option maxHeartbeats 4000000 in
set_option maxRecDepth 100000 in
theorem dEn0_start {s : State} {b : Nat} (hts : ∀ w ∈ lw_tbl, w.before #[Value.ref b] s = true) (hgv : (Jvm.Cond.and given_1 narrow_1).before #[Value.ref b] s = true) : ∃ g : dG, g.2.2.2 = s.heap.size ∧ dEn0 g s := by
  obtain ⟨c0, i0, k0⟩ := u_known (C := RX0) (T := TX0) (N := 4) (n := 4) hts inX0 (hts (.instantiable RX0 4) (List.mem_of_getElem? (i := 286) (by decide +kernel)))
  obtain ⟨c1, i1, k1⟩ := u_known (C := RX1) (T := TX1) (N := 5) (n := 5) hts inX1 (hts (.instantiable RX1 5) (List.mem_of_getElem? (i := 56) (by decide +kernel)))
  obtain ⟨c2, i2, k2⟩ := u_known (C := RX2) (T := TX2) (N := 4) (n := 4) hts inX2 (hts (.instantiable RX2 4) (List.mem_of_getElem? (i := 209) (by decide +kernel)))
  obtain ⟨c3, i3, k3⟩ := u_known (C := RX3) (T := TX3) (N := 3) (n := 3) hts inX3 (hts (.instantiable RX3 3) (List.mem_of_getElem? (i := 268) (by decide +kernel)))
  obtain ⟨c4, i4, k4⟩ := u_known (C := RX4) (T := TX4) (N := 8) (n := 8) hts inX4 (hts (.instantiable RX4 8) (List.mem_of_getElem? (i := 154) (by decide +kernel)))
  obtain ⟨c5, i5, k5⟩ := u_known (C := RX5) (T := TX5) (N := 7) (n := 7) hts inX5 (hts (.instantiable RX5 7) (List.mem_of_getElem? (i := 124) (by decide +kernel)))
  obtain ⟨c6, i6, k6⟩ := u_known (C := RX6) (T := TX6) (N := 4) (n := 4) hts inX6 (hts (.instantiable RX6 4) (List.mem_of_getElem? (i := 241) (by decide +kernel)))
  obtain ⟨c7, i7, k7⟩ := u_known (C := RX7) (T := TX7) (N := 3) (n := 3) hts inX7 (hts (.instantiable RX7 3) (List.mem_of_getElem? (i := 87) (by decide +kernel)))
  obtain ⟨c8, i8, k8⟩ := u_known (C := RX8) (T := TX8) (N := 4) (n := 4) hts inX8 (hts (.instantiable RX8 4) (List.mem_of_getElem? (i := 117) (by decide +kernel)))
  obtain ⟨c9, i9, k9⟩ := u_known (C := RX9) (T := TX9) (N := 2) (n := 2) hts inX9 (hts (.instantiable RX9 2) (List.mem_of_getElem? (i := 94) (by decide +kernel)))
  obtain ⟨c10, i10, k10⟩ := u_known (C := RX10) (T := TX10) (N := 4) (n := 4) hts inX10 (hts (.instantiable RX10 4) (List.mem_of_getElem? (i := 201) (by decide +kernel)))
  obtain ⟨c11, i11, k11⟩ := u_known (C := RX11) (T := TX11) (N := 8) (n := 8) hts inX11 (hts (.instantiable RX11 8) (List.mem_of_getElem? (i := 48) (by decide +kernel)))
  obtain ⟨aI, bI1, bI2⟩ := arr_ty (ty := .int) (fun C h => by cases h) (hts (.arrayClass .int) (List.mem_of_getElem? (i := 84) (by decide +kernel)))
  obtain ⟨aZ, bZ1, bZ2⟩ := arr_ty (ty := .boolean) (fun C h => by cases h) (hts (.arrayClass .boolean) (List.mem_of_getElem? (i := 85) (by decide +kernel)))
  obtain ⟨aJ, bJ1, bJ2⟩ := arr_ty (ty := .long) (fun C h => by cases h) (hts (.arrayClass .long) (List.mem_of_getElem? (i := 186) (by decide +kernel)))
  obtain ⟨aP, bP1, bP2⟩ := arr_obj (C := "DrillField$Part") (hts (.arrayOver (.object "DrillField$Part")) (List.mem_of_getElem? (i := 123) (by decide +kernel)))
  obtain ⟨aS, bS1, bS2⟩ := arr_obj (C := "DrillField$Spots") (hts (.arrayOver (.object "DrillField$Spots")) (List.mem_of_getElem? (i := 93) (by decide +kernel)))
  obtain ⟨aA, bA1, bA2⟩ := arr_arr (t := .int) (hts (.arrayOver (.array .int)) (List.mem_of_getElem? (i := 249) (by decide +kernel)))
  obtain ⟨aL, bL1, bL2⟩ := arr_arr (t := .long) (hts (.arrayOver (.array .long)) (List.mem_of_getElem? (i := 160) (by decide +kernel)))
  have hn := flat_of_before _ hgv
  refine ⟨(((fun k => if k = 0 then c0 else if k = 1 then c1 else if k = 2 then c2 else if k = 3 then c3 else if k = 4 then c4 else if k = 5 then c5 else if k = 6 then c6 else if k = 7 then c7 else if k = 8 then c8 else if k = 9 then c9 else if k = 10 then c10 else c11), (fun k => if k = 0 then i0 else if k = 1 then i1 else if k = 2 then i2 else if k = 3 then i3 else if k = 4 then i4 else if k = 5 then i5 else if k = 6 then i6 else if k = 7 then i7 else if k = 8 then i8 else if k = 9 then i9 else if k = 10 then i10 else i11)), (fun k => if k = 0 then aI else if k = 1 then aZ else if k = 2 then aJ else if k = 3 then aP else if k = 4 then aS else if k = 5 then aA else aL), (fun _ => 0), s.heap.size), rfl, ⟨?_, ?_⟩, ?_, ?_, ?_, ?_, Nat.le_refl _, ?_, ?_, ?_, ?_, ?_, ?_, ?_⟩
  · intro k q hq
    match k, hq with
    | 0, hq => cases hq; exact k0
    | 1, hq => cases hq; exact k1
    | 2, hq => cases hq; exact k2
    | 3, hq => cases hq; exact k3
    | 4, hq => cases hq; exact k4
    | 5, hq => cases hq; exact k5
    | 6, hq => cases hq; exact k6
    | 7, hq => cases hq; exact k7
    | 8, hq => cases hq; exact k8
    | 9, hq => cases hq; exact k9
    | 10, hq => cases hq; exact k10
    | 11, hq => cases hq; exact k11
    | k + 12, hq => simp [vwCl] at hq
  · intro k q hq
    match k, hq with
    | 0, hq => cases hq; exact ⟨bI1, bI2⟩
    | 1, hq => cases hq; exact ⟨bZ1, bZ2⟩
    | 2, hq => cases hq; exact ⟨bJ1, bJ2⟩
    | 3, hq => cases hq; exact ⟨bP1, bP2⟩
    | 4, hq => cases hq; exact ⟨bS1, bS2⟩
    | 5, hq => cases hq; exact ⟨bA1, bA2⟩
    | 6, hq => cases hq; exact ⟨bL1, bL2⟩
    | k + 7, hq => simp [dTys] at hq
  · exact List.forall_mem_append.mpr ⟨List.forall_mem_cons.mpr ⟨va_Nw.of rfl (hts (.methodLinkNest "DrillField$Contest" 27 ⟨"DrillField", "isWithin", "(III)Z"⟩ "DrillField") (List.mem_of_getElem? (i := 682) (by decide +kernel))), List.forall_mem_cons.mpr ⟨va_Nw.of rfl (hts (.methodLinkNest "DrillField$Contest" 35 ⟨"DrillField", "downBy", "(II)I"⟩ "DrillField") (List.mem_of_getElem? (i := 688) (by decide +kernel))), List.forall_mem_cons.mpr ⟨va_Nw.of rfl (hts (.methodLinkNest "DrillField$Dots" 39 ⟨"DrillField", "isInRow", "(I)Z"⟩ "DrillField") (List.mem_of_getElem? (i := 518) (by decide +kernel))), List.forall_mem_cons.mpr ⟨va_Nw.of rfl (hts (.methodLinkNest "DrillField$Dots" 43 ⟨"DrillField", "isWithin", "(III)Z"⟩ "DrillField") (List.mem_of_getElem? (i := 760) (by decide +kernel))), List.forall_mem_cons.mpr ⟨va_Nw.of rfl (hts (.methodLinkNest "DrillField$Dots" 51 ⟨"DrillField", "downBy", "(II)I"⟩ "DrillField") (List.mem_of_getElem? (i := 531) (by decide +kernel))), List.forall_mem_cons.mpr ⟨va_Nw.of rfl (hts (.methodLinkNest "DrillField$Pages" 63 ⟨"DrillField", "isWithin", "(III)Z"⟩ "DrillField") (List.mem_of_getElem? (i := 641) (by decide +kernel))), List.forall_mem_cons.mpr ⟨va_Nw.of rfl (hts (.methodLinkNest "DrillField$Pairing" 85 ⟨"DrillField", "isInRow", "(I)Z"⟩ "DrillField") (List.mem_of_getElem? (i := 871) (by decide +kernel))), List.forall_mem_cons.mpr ⟨va_Nw.of rfl (hts (.methodLinkNest "DrillField$Part" 39 ⟨"DrillField", "isInRow", "(I)Z"⟩ "DrillField") (List.mem_of_getElem? (i := 892) (by decide +kernel))), List.forall_mem_cons.mpr ⟨va_Nw.of rfl (hts (.methodLinkNest "DrillField$Part" 54 ⟨"DrillField", "downBy", "(II)I"⟩ "DrillField") (List.mem_of_getElem? (i := 496) (by decide +kernel))), List.forall_mem_cons.mpr ⟨va_Nw.of rfl (hts (.methodLinkNest "DrillField$Sets" 26 ⟨"DrillField", "isWithin", "(III)Z"⟩ "DrillField") (List.mem_of_getElem? (i := 795) (by decide +kernel))), List.forall_mem_cons.mpr ⟨va_Nw.of rfl (hts (.methodLinkNest "DrillField$Sets" 30 ⟨"DrillField", "downBy", "(II)I"⟩ "DrillField") (List.mem_of_getElem? (i := 773) (by decide +kernel))), List.forall_mem_cons.mpr ⟨va_Nw.of rfl (hts (.methodLinkNest "DrillField$Sets" 38 ⟨"DrillField", "restBy", "(II)I"⟩ "DrillField") (List.mem_of_getElem? (i := 805) (by decide +kernel))), List.forall_mem_cons.mpr ⟨va_Nw.of rfl (hts (.methodLinkNest "DrillField$Sets" 48 ⟨"DrillField", "isOnField", "(II)Z"⟩ "DrillField") (List.mem_of_getElem? (i := 785) (by decide +kernel))), List.forall_mem_cons.mpr ⟨va_Nw.of rfl (hts (.methodLinkNest "DrillField$Show" 33 ⟨"DrillField", "isWithin", "(III)Z"⟩ "DrillField") (List.mem_of_getElem? (i := 420) (by decide +kernel))), List.forall_mem_cons.mpr ⟨va_Nw.of rfl (hts (.methodLinkNest "DrillField$Spots" 18 ⟨"DrillField", "isInRow", "(I)Z"⟩ "DrillField") (List.mem_of_getElem? (i := 433) (by decide +kernel))), List.forall_mem_cons.mpr ⟨va_Nw.of rfl (hts (.methodLinkNest "DrillField$Spots" 33 ⟨"DrillField", "square", "(II)I"⟩ "DrillField") (List.mem_of_getElem? (i := 436) (by decide +kernel))), List.forall_mem_cons.mpr ⟨va_Nw.of rfl (hts (.methodLinkNest "DrillField$Watch" 74 ⟨"DrillField", "isWithin", "(III)Z"⟩ "DrillField") (List.mem_of_getElem? (i := 483) (by decide +kernel))), (fun _ h => absurd h List.not_mem_nil)⟩⟩⟩⟩⟩⟩⟩⟩⟩⟩⟩⟩⟩⟩⟩⟩⟩, List.forall_mem_cons.mpr ⟨va_Nw.of rfl (hts (.methodLinkNest "DrillField" 39 ⟨"DrillField$Recount", "<init>", "()V"⟩ "DrillField") (List.mem_of_getElem? (i := 242) (by decide +kernel))), List.forall_mem_cons.mpr ⟨va_Nw.of rfl (hts (.methodLinkNest "DrillField" 46 ⟨"DrillField$Spots", "<init>", "()V"⟩ "DrillField") (List.mem_of_getElem? (i := 266) (by decide +kernel))), List.forall_mem_cons.mpr ⟨va_Nw.of rfl (hts (.methodLinkNest "DrillField" 60 ⟨"DrillField$Contest", "<init>", "()V"⟩ "DrillField") (List.mem_of_getElem? (i := 287) (by decide +kernel))), List.forall_mem_cons.mpr ⟨va_Nw.of rfl (hts (.methodLinkNest "DrillField$Pages" 17 ⟨"DrillField$Spots", "<init>", "()V"⟩ "DrillField") (List.mem_of_getElem? (i := 274) (by decide +kernel))), List.forall_mem_cons.mpr ⟨va_Nw.of rfl (hts (.methodLinkNest "DrillField$Part" 11 ⟨"DrillField$Spots", "<init>", "()V"⟩ "DrillField") (List.mem_of_getElem? (i := 130) (by decide +kernel))), List.forall_mem_cons.mpr ⟨va_Nw.of rfl (hts (.methodLinkNest "DrillField$Recount" 11 ⟨"DrillField$Spots", "<init>", "()V"⟩ "DrillField") (List.mem_of_getElem? (i := 247) (by decide +kernel))), List.forall_mem_cons.mpr ⟨va_Nw.of rfl (hts (.methodLinkNest "DrillField$Recount" 28 ⟨"DrillField$Fault", "<init>", "()V"⟩ "DrillField") (List.mem_of_getElem? (i := 251) (by decide +kernel))), List.forall_mem_cons.mpr ⟨va_Nw.of rfl (hts (.methodLinkNest "DrillField$Sets" 17 ⟨"DrillField$Spots", "<init>", "()V"⟩ "DrillField") (List.mem_of_getElem? (i := 95) (by decide +kernel))), List.forall_mem_cons.mpr ⟨va_Nw.of rfl (hts (.methodLinkNest "DrillField$Show" 17 ⟨"DrillField$Part", "<init>", "()V"⟩ "DrillField") (List.mem_of_getElem? (i := 125) (by decide +kernel))), List.forall_mem_cons.mpr ⟨va_Nw.of rfl (hts (.methodLinkNest "DrillField$Show" 24 ⟨"DrillField$Pairing", "<init>", "()V"⟩ "DrillField") (List.mem_of_getElem? (i := 155) (by decide +kernel))), List.forall_mem_cons.mpr ⟨va_Nw.of rfl (hts (.methodLinkNest "DrillField$Watch" 17 ⟨"DrillField$Spots", "<init>", "()V"⟩ "DrillField") (List.mem_of_getElem? (i := 207) (by decide +kernel))), List.forall_mem_cons.mpr ⟨va_Nw.of rfl (hts (.methodLinkNest "DrillField$Watch" 24 ⟨"DrillField$Fault", "<init>", "()V"⟩ "DrillField") (List.mem_of_getElem? (i := 210) (by decide +kernel))), (fun _ h => absurd h List.not_mem_nil)⟩⟩⟩⟩⟩⟩⟩⟩⟩⟩⟩⟩⟩
  · exact vx_Zqof (hts (.laysStatic Bundle.tN "UNASSIGNED_STACK" Bundle.steD) (List.mem_of_getElem? (i := 375) (by decide +kernel))) (hts (.initialized Bundle.tN) (List.mem_of_getElem? (i := 41) (by decide +kernel))) (hn _ (by decide +kernel)) (fun a h => Nat.not_le.mpr h)
  · exact vx_Zqof (hts (.laysStatic Bundle.tN "SUPPRESSED_SENTINEL" Bundle.listD) (List.mem_of_getElem? (i := 377) (by decide +kernel))) (hts (.initialized Bundle.tN) (List.mem_of_getElem? (i := 41) (by decide +kernel))) (hn _ (by decide +kernel)) (fun a h => Nat.not_le.mpr h)
  · exact List.forall_mem_cons.mpr ⟨exactly_str (hts (.stringRef "DrillField" 75 "there are sets") (List.mem_of_getElem? (i := 719) (by decide +kernel))) (hn _ (by decide +kernel)), List.forall_mem_cons.mpr ⟨exactly_str (hts (.stringRef "DrillField" 116 "a place is not on the field") (List.mem_of_getElem? (i := 768) (by decide +kernel))) (hn _ (by decide +kernel)), List.forall_mem_cons.mpr ⟨exactly_str (hts (.stringRef "DrillField" 135 "there are 12 parts") (List.mem_of_getElem? (i := 823) (by decide +kernel))) (hn _ (by decide +kernel)), List.forall_mem_cons.mpr ⟨exactly_str (hts (.stringRef "DrillField" 157 "there is no part") (List.mem_of_getElem? (i := 908) (by decide +kernel))) (hn _ (by decide +kernel)), List.forall_mem_cons.mpr ⟨exactly_str (hts (.stringRef "DrillField" 207 "the dot does not march") (List.mem_of_getElem? (i := 1011) (by decide +kernel))) (hn _ (by decide +kernel)), List.forall_mem_cons.mpr ⟨exactly_str (hts (.stringRef "DrillField" 267 "an argument is out of its range") (List.mem_of_getElem? (i := 455) (by decide +kernel))) (hn _ (by decide +kernel)), List.forall_mem_cons.mpr ⟨exactly_str (hts (.stringRef "DrillField" 271 "there is no such number") (List.mem_of_getElem? (i := 389) (by decide +kernel))) (hn _ (by decide +kernel)), List.forall_mem_cons.mpr ⟨exactly_str (hts (.stringRef "DrillField" 277 "there are 12 sets") (List.mem_of_getElem? (i := 786) (by decide +kernel))) (hn _ (by decide +kernel)), (fun _ h => absurd h List.not_mem_nil)⟩⟩⟩⟩⟩⟩⟩⟩
  · exact List.forall_mem_cons.mpr ⟨va_Nw.of rfl (hts (.declares (Bundle.initS "java/lang/RuntimeException")) (List.mem_of_getElem? (i := 352) (by decide +kernel))), List.forall_mem_cons.mpr ⟨va_Nw.of rfl (hts (.declares (Bundle.initS "java/lang/Exception")) (List.mem_of_getElem? (i := 354) (by decide +kernel))), List.forall_mem_cons.mpr ⟨va_Nw.of rfl (hts (.declares (Bundle.initS Bundle.tN)) (List.mem_of_getElem? (i := 356) (by decide +kernel))), (fun _ h => absurd h List.not_mem_nil)⟩⟩⟩
  · exact List.forall_mem_cons.mpr ⟨va_Nw.of rfl (hts (.castable "java/lang/IllegalArgumentException" "java/lang/IllegalArgumentException") (List.mem_of_getElem? (i := 448) (by decide +kernel))), List.forall_mem_cons.mpr ⟨va_Nw.of rfl (hts (.castable "java/lang/IllegalStateException" "java/lang/IllegalStateException") (List.mem_of_getElem? (i := 712) (by decide +kernel))), List.forall_mem_cons.mpr ⟨va_Nw.of rfl (hts (.castable "java/lang/IndexOutOfBoundsException" "java/lang/IndexOutOfBoundsException") (List.mem_of_getElem? (i := 350) (by decide +kernel))), (fun _ h => absurd h List.not_mem_nil)⟩⟩⟩
  · exact List.forall_mem_cons.mpr ⟨List.forall_mem_cons.mpr ⟨fun n => absurd rfl n, List.forall_mem_cons.mpr ⟨fun _ => va_Nc.of (hn (.not (.castable "java/lang/IllegalArgumentException" "java/lang/IllegalStateException")) (by decide +kernel)), List.forall_mem_cons.mpr ⟨fun _ => va_Nc.of (hn (.not (.castable "java/lang/IllegalArgumentException" "java/lang/IndexOutOfBoundsException")) (by decide +kernel)), (fun _ h => absurd h List.not_mem_nil)⟩⟩⟩, List.forall_mem_cons.mpr ⟨List.forall_mem_cons.mpr ⟨fun _ => va_Nc.of (hn (.not (.castable "java/lang/IllegalStateException" "java/lang/IllegalArgumentException")) (by decide +kernel)), List.forall_mem_cons.mpr ⟨fun n => absurd rfl n, List.forall_mem_cons.mpr ⟨fun _ => va_Nc.of (hn (.not (.castable "java/lang/IllegalStateException" "java/lang/IndexOutOfBoundsException")) (by decide +kernel)), (fun _ h => absurd h List.not_mem_nil)⟩⟩⟩, List.forall_mem_cons.mpr ⟨List.forall_mem_cons.mpr ⟨fun _ => va_Nc.of (hn (.not (.castable "java/lang/IndexOutOfBoundsException" "java/lang/IllegalArgumentException")) (by decide +kernel)), List.forall_mem_cons.mpr ⟨fun _ => va_Nc.of (hn (.not (.castable "java/lang/IndexOutOfBoundsException" "java/lang/IllegalStateException")) (by decide +kernel)), List.forall_mem_cons.mpr ⟨fun n => absurd rfl n, (fun _ h => absurd h List.not_mem_nil)⟩⟩⟩, (fun _ h => absurd h List.not_mem_nil)⟩⟩⟩
  · exact va_AO.of (hts (.arrayOver (.object "DrillField$Part")) (List.mem_of_getElem? (i := 123) (by decide +kernel)))
  · exact va_AO.of (hts (.arrayOver (.object "DrillField$Spots")) (List.mem_of_getElem? (i := 93) (by decide +kernel)))
  · exact hts (.arrayOver (.array .int)) (List.mem_of_getElem? (i := 249) (by decide +kernel))
  · exact hts (.arrayOver (.array .long)) (List.mem_of_getElem? (i := 160) (by decide +kernel))
theorem law_ix {k nL : Nat} (hk : k < 60) (h0 : ¬ nI nL = 0) (hL : nL ≤ 260) : dIx (nI k - nI k / nI nL * nI nL) nL = true := by
  have e0 : nL ≠ 0 := fun q => h0 (by rw [q]; rfl)
  have hm : (k : Int) - (k : Int) / (nL : Int) * (nL : Int) = (k : Int) % (nL : Int) := by have := Int.mul_ediv_add_emod (k : Int) (nL : Int); have e : (k : Int) / (nL : Int) * (nL : Int) = (nL : Int) * ((k : Int) / (nL : Int)) := Int.mul_comm _ _; omega
  have h1 := Int.emod_nonneg (k : Int) (show (nL : Int) ≠ 0 by omega)
  have h2 := Int.emod_lt_of_pos (k : Int) (show (0 : Int) < (nL : Int) by omega)
  rw [zi_nI k, zi_nI nL, zi_dn (by omega) (by omega) (by omega) (by omega), zi_mul, zi_sub, hm]
  exact dIx_ok h1 h2 (by omega)
def fLaw_x (xs : Nat → Int32) (nL : Nat) (k : Int32) : Int32 := if nI nL = 0 then 103 * k else ((xs (Int32.toNatClampNeg (k - k / nI nL * nI nL))).toUInt32 >>> ((8 : Int32).toUInt32 &&& Int32.toUInt32 31)).toInt32
def fLaw_it (xs : Nat → Int32) (nL : Nat) : Nat → Int32 → Int32 → Int32 → Int32 → dM → Option Unit
  | 0, _, _, _, _, _ => some ()
  | n + 1, k, w2, w3, w4, m => (fL_lawI m w2 w3 w4 k (fLaw_x xs nL k)).bind (fun q => fLaw_it xs nL n (k + 1) q.1 q.2.1 q.2.2.1 q.2.2.2)
set_option maxHeartbeats 4000000 in
set_option maxRecDepth 100000 in
theorem kLaw_loop {p : Program} {l : Launch} {e : Env} {s : State} {mth : MethodId} {below : List Frame} {meth : Method} {c : Code} {b nL : Nat} {xs : Nat → Int32} {g : dG} (hst : l.stackTraces = false) (S : CallFix p mth c cL_law 12 s #[Value.ref b] wsL_law RL) (hX : va_X b nL xs s s.heap) (hbl : b < s.heap.size) (hE : dEw g s) (hL : nL ≤ 260) (hr : meth.sig.returnType = ret) (hlk : meth.locks = false) :
    ∀ (n k : Nat) (w2 w3 w4 : Int32) (m : dM), n + k = 60 → fLaw_it xs nL n (nI k) w2 w3 w4 m = some () → ∀ (H : Heap) (ls : Array Slot) (cells slots : Nat), cells ≤ 6585 + 954 * k → slots ≤ 43075 + 5724 * k → va_P g.1 vwCl (dws g m) H → va_S (dAs s) s.heap H [] → g.2.2.2 ≤ H.size → lv_has ls 12 [(0, .ref b), (1, .ref (dad g 0)), (2, .int w2), (3, .int w3), (4, .int w4), (5, .int (nI k))] → W p l e room_1 s mth #[Value.ref b] below meth c H [] cells slots (lw_Z below #[Value.ref b] s) (F0 mth 26 ls []) := by
  have hbA : ¬ dAs s b := fun h => by have h : s.heap.size ≤ b := h; omega
  intro n
  induction n with
  | zero =>
    intro k w2 w3 w4 m hnk h H ls cells slots hc hs hP hS hb hl
    obtain rfl : k = 60 := by omega
    refine lv_iload S.1 S.2.1 dL_law_26 (lv_at hl 5 rfl) ?_
    refine lv_bipush (v := 60) S.1 S.2.1 dL_law_28 (by decide) ?_
    refine lv_icmp_ge (tgt := 699) S.1 S.2.1 dL_law_30 (by decide) (fun cq => ?_) (fun cq => ?_)
    · refine lv_iconst (v := 1) S.1 S.2.1 dL_law_699 (by decide) ?_
      exact W.widen (k := 600086) (n := 7301442) (by omega) (by omega) (lw_ret S.1 S.2.1 hr hlk dL_law_700)
    · exact absurd cq (by decide)
  | succ n ih =>
    intro k w2 w3 w4 m hnk h H ls cells slots hc hs hP hS hb hl
    have hk : k < 60 := by omega
    have h : (fL_lawI m w2 w3 w4 (nI k) (fLaw_x xs nL (nI k))).bind (fun q => fLaw_it xs nL n (nI k + 1) q.1 q.2.1 q.2.2.1 q.2.2.2) = some () := h
    obtain ⟨⟨x2, x3, x4, m9⟩, h1, h⟩ := d_b h
    have h : fLaw_it xs nL n (nI (k + 1)) x2 x3 x4 m9 = some () := by rw [show nI (k + 1) = nI k + 1 from (nI_add k 1).symm]; exact h
    refine lv_iload S.1 S.2.1 dL_law_26 (lv_at hl 5 rfl) ?_
    refine lv_bipush (v := 60) S.1 S.2.1 dL_law_28 (by decide) ?_
    have hR : cells + 954 ≤ room_1.cells ∧ slots + 5724 ≤ room_1.slots := ⟨(by omega : cells + 954 ≤ 600086), (by omega : slots + 5724 ≤ 7301442)⟩
    have X6 : ∀ ls : Array Slot, lv_has ls 12 [(6, .int (fLaw_x xs nL (nI k))), (0, .ref b), (1, .ref (dad g 0)), (2, .int w2), (3, .int w3), (4, .int w4), (5, .int (nI k))] → W p l e room_1 s mth #[Value.ref b] below meth c H [] cells slots (lw_Z below #[Value.ref b] s) (F0 mth 58 ls []) := fun ls hl => by
      refine kL_lawI (K := dK1) hst S hE (fun _ _ _ _ => trivial) hR h1 hP hS hb trivial (lv_sub hl [1, 2, 3, 4, 5, 6, 0] rfl) (fun H ls cells2 slots2 hc2 hs2 hP hS hb _ hl => ?_)
      refine lv_iinc (v := nI (k + 1)) (lv' := [(5, .int (nI (k + 1))), (0, .ref b), (1, .ref (dad g 0)), (2, .int x2), (3, .int x3), (4, .int x4)]) S.1 S.2.1 dL_law_693 hl (k := 5) rfl (nI_add k 1) (by decide) rfl (fun ls hl => ?_)
      refine lv_goto (tgt := 26) S.1 S.2.1 dL_law_696 (by decide) ?_
      exact ih (k + 1) x2 x3 x4 m9 (by omega) h H ls cells2 slots2 (by omega) (by omega) hP hS hb (lv_sub hl [1, 2, 3, 4, 5, 0] rfl)
    refine lv_icmp_ge (tgt := 699) S.1 S.2.1 dL_law_30 (by decide) (fun cq => ?_) (fun cq => ?_)
    · exact absurd cq (by rw [zi_nI]; exact fun q => absurd q (by rw [show (60 : Int32) = Int32.ofInt 60 from rfl, zi_le (by omega) (by omega) (by omega) (by omega)]; omega))
    · refine lv_aload_n S.1 S.2.1 dL_law_33 rfl (lv_at hl 0 rfl) ?_
      refine va_slen S.1 S.2.1 hX hbl hbA hS dL_law_34 ?_
      refine W.eq (g2 := F0 mth 35 ls [.int (nI nL)]) rfl ?_
      refine lv_if_ne (tgt := 46) S.1 S.2.1 dL_law_35 (by decide) (fun cq2 => ?_) (fun cq2 => ?_)
      · refine lv_aload_n S.1 S.2.1 dL_law_46 rfl (lv_at hl 0 rfl) ?_
        refine lv_iload S.1 S.2.1 dL_law_47 (lv_at hl 5 rfl) ?_
        refine lv_aload_n S.1 S.2.1 dL_law_49 rfl (lv_at hl 0 rfl) ?_
        refine va_slen S.1 S.2.1 hX hbl hbA hS dL_law_50 ?_
        refine W.eq (g2 := F0 mth 51 ls [.int (nI nL), .int (nI k), .ref b]) rfl ?_
        refine lv_irem S.1 S.2.1 dL_law_51 cq2 ?_
        refine va_sld S.1 S.2.1 hX hbl hbA hS (dIx_in (law_ix hk cq2 hL)) dL_law_52 ?_
        refine lv_bipush (v := 8) S.1 S.2.1 dL_law_53 (by decide) ?_
        refine lv_iushr (v := fLaw_x xs nL (nI k)) S.1 S.2.1 dL_law_55 (by unfold fLaw_x; rw [if_neg cq2]) ?_
        refine lv_istore (lv' := [(6, .int (fLaw_x xs nL (nI k))), (0, .ref b), (1, .ref (dad g 0)), (2, .int w2), (3, .int w3), (4, .int w4), (5, .int (nI k))]) S.1 S.2.1 dL_law_56 hl (by decide) rfl (fun ls hl => ?_)
        exact X6 ls hl
      · refine lv_bipush (v := 103) S.1 S.2.1 dL_law_38 (by decide) ?_
        refine lv_iload S.1 S.2.1 dL_law_40 (lv_at hl 5 rfl) ?_
        refine lv_imul S.1 S.2.1 dL_law_42 ?_
        refine lv_goto (tgt := 56) S.1 S.2.1 dL_law_43 (by decide) ?_
        refine W.eq (g2 := F0 mth 56 ls [.int (fLaw_x xs nL (nI k))]) (by unfold fLaw_x; rw [if_pos cq2]) ?_
        refine lv_istore (lv' := [(6, .int (fLaw_x xs nL (nI k))), (0, .ref b), (1, .ref (dad g 0)), (2, .int w2), (3, .int w3), (4, .int w4), (5, .int (nI k))]) S.1 S.2.1 dL_law_56 hl (by decide) rfl (fun ls hl => ?_)
        exact X6 ls hl
set_option maxHeartbeats 4000000 in
set_option maxRecDepth 100000 in
/-- the claim's start, out of the pure statements -/
theorem start_of {p : Program} {e : Env} {s : State} {m : MethodId} {below : List Frame} {meth : Method} {c : Code} (l : Launch) (hflags : l.flags = flags0) {b L : Nat} {xs : Nat → Int32} (hL : L ≤ 260) (hpL_drills : ∃ r, fL_drills dI = some r) (hpL_crosses : ∃ r, fL_crosses = some r) (hpL_judges : ∃ r, fL_judges dI = some r) (hpure : fLaw_it xs L 60 0 0 0 0 dI = some ()) (C0 : lw_At p s m meth c b L xs) : W p l e room_1 s m #[Value.ref b] below meth c s.heap [] 0 0 (lw_Z below #[Value.ref b] s) (entryFrame m ([Value.ref b] : List Value).toArray 12) := by
  obtain ⟨hx, hb, hr, hml, hown, hts, hX, hbl, hlk, hgv⟩ := id C0
  have hst : l.stackTraces = false := by unfold Launch.stackTraces; rw [hflags]; decide +kernel
  have S : CallFix p m c cL_law 12 s #[Value.ref b] wsL_law RL := ⟨hx, hb, hml, hown, fun w h => hts w (wsL_law_in w h)⟩
  obtain ⟨g0, hg, hE0⟩ := dEn0_start hts hgv
  have hS : va_S (dAs s) s.heap s.heap [] := va_S.rf
  have hl := lv_entry ([Value.ref b]) (n := 12) (Nat.le_of_ble_eq_true rfl)
  rw [lg_entry_eq]
  generalize (lg_sl ([Value.ref b]) ++ List.replicate (12 - (lg_sl ([Value.ref b])).length) Slot.unset).toArray = ls at hl ⊢
  have hl : lv_has ls 12 [(0, .ref b)] := hl
  have hR1 : 0 + 6585 ≤ room_1.cells := (Nat.le_of_ble_eq_true rfl)
  have hR2 : 0 + 43075 ≤ room_1.slots := (Nat.le_of_ble_eq_true rfl)
  refine dwDi (vx_runS (As := []) (rest := []) S (kL_drills l _ hst hpL_drills hpL_crosses hpL_judges) (va_cwS 0 S.2.2.2.2 gL_law_L_drills rfl rfl rfl ynL_drills ⟨(Nat.le_of_ble_eq_true rfl), (Nat.le_of_ble_eq_true rfl)⟩) (dwE hE0 hS) rfl rfl hl.1 rfl (lv_room (Nat.le_of_ble_eq_true rfl)) dL_law_0 ⟨by omega, by omega⟩) (Nat.le_of_eq hg.symm) hS (fun H hS => ?_)
  refine lv_if_ne (tgt := 8) S.1 S.2.1 dL_law_3 (by decide) (fun cq => ?_) (fun cq => ?_)
  · refine d_newF (k1 := 443) (k2 := 3369) (fs := [.null, .null, .null, .null, .null, .null, .null, .null]) S (inlX11) (hts (.classLink RL 8 RX11) (List.mem_of_getElem? (i := 47) (by decide +kernel))) (hts (.instantiable RX11 8) (List.mem_of_getElem? (i := 48) (by decide +kernel))) (hts (.initialized RX11) (List.mem_of_getElem? (i := 28) (by decide +kernel))) hE0 hg hS hfsX11 (fun q9 H9 locs9 c9 s9 hp hf => va_runI (As := []) (rest := [.ref q9]) S (kiX11 l _ q9 _) (cwI 0 S.2.2.2.2 gL_law_X11_init rfl rfl rfl (hts (.initialized RX11) (List.mem_of_getElem? (i := 28) (by decide +kernel))) (hts (.methodLink RL 129 yX11_init) (List.mem_of_getElem? (i := 49) (by decide +kernel))) (hts (.instanceMethod yX11_init) (List.mem_of_getElem? (i := 50) (by decide +kernel))) rfl yniX11 ⟨(Nat.le_of_ble_eq_true rfl), (Nat.le_of_ble_eq_true rfl)⟩) hp rfl rfl hl.1 rfl (lv_room (Nat.le_of_ble_eq_true rfl)) dL_law_12 hf) (by omega) (by omega) dL_law_8 dL_law_11 (fun g H hE hgb hP hS hsz hold => ?_)
    have hb : g.2.2.2 ≤ H.size := by rw [hgb]; exact hsz
    refine lv_astore_n (lv' := [(1, .ref (dad g 0)), (0, .ref b)]) S.1 S.2.1 dL_law_15 rfl hl (by decide) rfl (fun ls hl => ?_)
    refine lv_iconst (v := 0) S.1 S.2.1 dL_law_16 (by decide) ?_
    refine lv_istore_n (lv' := [(2, .int 0), (1, .ref (dad g 0)), (0, .ref b)]) S.1 S.2.1 dL_law_17 rfl hl (by decide) rfl (fun ls hl => ?_)
    refine lv_iconst (v := 0) S.1 S.2.1 dL_law_18 (by decide) ?_
    refine lv_istore_n (lv' := [(3, .int 0), (2, .int 0), (1, .ref (dad g 0)), (0, .ref b)]) S.1 S.2.1 dL_law_19 rfl hl (by decide) rfl (fun ls hl => ?_)
    refine lv_iconst (v := 0) S.1 S.2.1 dL_law_20 (by decide) ?_
    refine lv_istore (lv' := [(4, .int 0), (3, .int 0), (2, .int 0), (1, .ref (dad g 0)), (0, .ref b)]) S.1 S.2.1 dL_law_21 hl (by decide) rfl (fun ls hl => ?_)
    refine lv_iconst (v := 0) S.1 S.2.1 dL_law_23 (by decide) ?_
    refine lv_istore (lv' := [(5, .int 0), (4, .int 0), (3, .int 0), (2, .int 0), (1, .ref (dad g 0)), (0, .ref b)]) S.1 S.2.1 dL_law_24 hl (by decide) rfl (fun ls hl => ?_)
    exact kLaw_loop hst S hX hbl hE hL hr hlk 60 0 0 0 0 dI rfl hpure H ls _ _ (Nat.le_of_ble_eq_true rfl) (Nat.le_of_ble_eq_true rfl) hP hS hb (lv_sub hl [5, 4, 3, 2, 1, 0] rfl)
  · exact absurd cq (by decide)
