theorem dX2_tell_0 : decode cX2_tell 0 = .ok (.aload_n 0, 1) := by decide +kernel
theorem dX2_tell_1 : decode cX2_tell 1 = .ok (.iload_n 1, 1) := by decide +kernel
theorem dX2_tell_2 : decode cX2_tell 2 = .ok (.putfield 9, 3) := by decide +kernel
theorem dX2_tell_5 : decode cX2_tell 5 = .ok (.aload_n 0, 1) := by decide +kernel
theorem dX2_tell_6 : decode cX2_tell 6 = .ok (.iload_n 2, 1) := by decide +kernel
theorem dX2_tell_7 : decode cX2_tell 7 = .ok (.putfield 15, 3) := by decide +kernel
theorem dX2_tell_10 : decode cX2_tell 10 = .ok (.aload_n 0, 1) := by decide +kernel
theorem dX2_tell_11 : decode cX2_tell 11 = .ok (.iload_n 3, 1) := by decide +kernel
theorem dX2_tell_12 : decode cX2_tell 12 = .ok (.putfield 18, 3) := by decide +kernel
theorem dX2_tell_15 : decode cX2_tell 15 = .ok (.aload_n 0, 1) := by decide +kernel
theorem dX2_tell_16 : decode cX2_tell 16 = .ok (.iload 4, 2) := by decide +kernel
theorem dX2_tell_18 : decode cX2_tell 18 = .ok (.putfield 21, 3) := by decide +kernel
theorem dX2_tell_21 : decode cX2_tell 21 = .ok (.return_, 1) := by decide +kernel
def fX2_tell (m : dM) (p0 : Nat) (p1 : Int32) (p2 : Int32) (p3 : Int32) (p4 : Int32) : Option dM := dg (dkg p0 3) (dlet (d1 m p0 0 p1) (fun m1 => dlet (d1 m1 p0 1 p2) (fun m2 => dlet (d1 m2 p0 2 p3) (fun m3 => dlet (d1 m3 p0 3 p4) (fun m4 => some m4)))))
set_option maxHeartbeats 4000000 in
set_option maxRecDepth 100000 in
theorem kX2_tell (l : Launch) (g : dG) {m : dM} {p0 : Nat} {p1 : Int32} {p2 : Int32} {p3 : Int32} {p4 : Int32} {m0 : dM} (h : fX2_tell m p0 p1 p2 p3 p4 = some m0) : dMet l g yX2_tell wsX2_tell (dRm 0 0) [.ref (dad g p0), .int p1, .int p2, .int p3, .int p4] m (dQV g m0) := by
  refine dof (cc := cX2_tell) (maxL := 5) (ret := none) _ (plainFor_of_name (by decide)) rfl (Nat.le_of_ble_eq_true rfl) ?_
  intro p e s mth below meth c S hr hlk hE H ls hP hS hl
  have S : CallFix p mth c cX2_tell 5 s _ wsX2_tell RX2 := S
  have hl : lv_has ls 5 [(0, .ref (dad g p0)), (1, .int p1), (2, .int p2), (3, .int p3), (4, .int p4)] := hl
  obtain ⟨locs, hlocs⟩ : ∃ z : List Loc, z = [] := ⟨_, rfl⟩
  rw [← hlocs] at hS ⊢
  have in2 : ∀ w ∈ wsX20, w ∈ wsX2_tell := by decide +kernel
  unfold fX2_tell at h
  obtain ⟨k0, h⟩ := d_g h
  have k0 := d_k k0
  refine lv_aload_n S.1 S.2.1 dX2_tell_0 rfl (lv_at hl 0 rfl) ?_
  refine lv_iload_n S.1 S.2.1 dX2_tell_1 rfl (lv_at hl 1 rfl) ?_
  refine dpf2_0 S in2 hE hP hS k0 (S.2.2.2.2 (.fieldLink RX2 9 "DrillField$Fault" "count" "I") (List.mem_of_getElem? (i := 1) rfl)) dX2_tell_2 (fun H locs hP hS => ?_)
  obtain ⟨m1, em1⟩ : ∃ z : dM, z = d1 m p0 0 p1 := ⟨_, rfl⟩
  have h := d_let em1 h
  rw [← em1] at hP
  refine lv_aload_n S.1 S.2.1 dX2_tell_5 rfl (lv_at hl 0 rfl) ?_
  refine lv_iload_n S.1 S.2.1 dX2_tell_6 rfl (lv_at hl 2 rfl) ?_
  refine dpf2_1 S in2 hE hP hS k0 (S.2.2.2.2 (.fieldLink RX2 15 "DrillField$Fault" "kind" "I") (List.mem_of_getElem? (i := 2) rfl)) dX2_tell_7 (fun H locs hP hS => ?_)
  obtain ⟨m2, em2⟩ : ∃ z : dM, z = d1 m1 p0 1 p2 := ⟨_, rfl⟩
  have h := d_let em2 h
  rw [← em2] at hP
  refine lv_aload_n S.1 S.2.1 dX2_tell_10 rfl (lv_at hl 0 rfl) ?_
  refine lv_iload_n S.1 S.2.1 dX2_tell_11 rfl (lv_at hl 3 rfl) ?_
  refine dpf2_2 S in2 hE hP hS k0 (S.2.2.2.2 (.fieldLink RX2 18 "DrillField$Fault" "dot" "I") (List.mem_of_getElem? (i := 3) rfl)) dX2_tell_12 (fun H locs hP hS => ?_)
  obtain ⟨m3, em3⟩ : ∃ z : dM, z = d1 m2 p0 2 p3 := ⟨_, rfl⟩
  have h := d_let em3 h
  rw [← em3] at hP
  refine lv_aload_n S.1 S.2.1 dX2_tell_15 rfl (lv_at hl 0 rfl) ?_
  refine lv_iload S.1 S.2.1 dX2_tell_16 (lv_at hl 4 rfl) ?_
  refine dpf2_3 S in2 hE hP hS k0 (S.2.2.2.2 (.fieldLink RX2 21 "DrillField$Fault" "other" "I") (List.mem_of_getElem? (i := 4) rfl)) dX2_tell_18 (fun H locs hP hS => ?_)
  obtain ⟨m4, em4⟩ : ∃ z : dM, z = d1 m3 p0 3 p4 := ⟨_, rfl⟩
  have h := d_let em4 h
  rw [← em4] at hP
  obtain rfl := Option.some.inj h
  exact dtv S hr hlk hE hP hS dX2_tell_21
set_option maxRecDepth 20000 in
theorem ggX2_clear_X2_tell : GoodIn wsX2_clear wsX2_tell := goodIn_r _ [5, 6, 7, 8, 9, 10, 11, 12, 13] (by decide +kernel) (by decide +kernel)
set_option maxRecDepth 20000 in
theorem gX2_clear_X2_tell : GoodIn wsX2_clear (wsV RX2 24 RX2 yX2_tell wsX2_tell) := goodIn_app (goodIn_of _ (by decide +kernel)) ggX2_clear_X2_tell
theorem dX2_clear_0 : decode cX2_clear 0 = .ok (.aload_n 0, 1) := by decide +kernel
theorem dX2_clear_1 : decode cX2_clear 1 = .ok (.iconst (-1), 1) := by decide +kernel
theorem dX2_clear_2 : decode cX2_clear 2 = .ok (.iconst (-1), 1) := by decide +kernel
theorem dX2_clear_3 : decode cX2_clear 3 = .ok (.iconst (-1), 1) := by decide +kernel
theorem dX2_clear_4 : decode cX2_clear 4 = .ok (.iconst (-1), 1) := by decide +kernel
theorem dX2_clear_5 : decode cX2_clear 5 = .ok (.invokevirtual 24, 3) := by decide +kernel
theorem dX2_clear_8 : decode cX2_clear 8 = .ok (.return_, 1) := by decide +kernel
def fX2_clear (m : dM) (p0 : Nat) : Option dM := dg (dkg p0 3) ((fX2_tell m p0 (-1) (-1) (-1) (-1)).bind (fun m2 => some m2))
set_option maxHeartbeats 4000000 in
set_option maxRecDepth 100000 in
theorem kX2_clear (l : Launch) (g : dG) {m : dM} {p0 : Nat} {m0 : dM} (h : fX2_clear m p0 = some m0) : dMet l g yX2_clear wsX2_clear (dRm 1 24) [.ref (dad g p0)] m (dQV g m0) := by
  refine dof (cc := cX2_clear) (maxL := 1) (ret := none) _ (plainFor_of_name (by decide)) rfl (Nat.le_of_ble_eq_true rfl) ?_
  intro p e s mth below meth c S hr hlk hE H ls hP hS hl
  have S : CallFix p mth c cX2_clear 1 s _ wsX2_clear RX2 := S
  have hl : lv_has ls 1 [(0, .ref (dad g p0))] := hl
  obtain ⟨locs, hlocs⟩ : ∃ z : List Loc, z = [] := ⟨_, rfl⟩
  rw [← hlocs] at hS ⊢
  unfold fX2_clear at h
  obtain ⟨k0, h⟩ := d_g h
  have k0 := d_k k0
  refine lv_aload_n S.1 S.2.1 dX2_clear_0 rfl (lv_at hl 0 rfl) ?_
  refine lv_iconst (v := (-1)) S.1 S.2.1 dX2_clear_1 (by decide) ?_
  refine lv_iconst (v := (-1)) S.1 S.2.1 dX2_clear_2 (by decide) ?_
  refine lv_iconst (v := (-1)) S.1 S.2.1 dX2_clear_3 (by decide) ?_
  refine lv_iconst (v := (-1)) S.1 S.2.1 dX2_clear_4 (by decide) ?_
  obtain ⟨m2, hc1, h⟩ := d_b h
  refine drv (va_runV (As := [.int (-1), .int (-1), .int (-1), .int (-1)]) (rest := []) S (kX2_tell l g hc1) (cwV 4 S.2.2.2.2 gX2_clear_X2_tell rfl rfl rfl ynX2_tell ⟨Nat.le_of_ble_eq_true rfl, Nat.le_of_ble_eq_true rfl⟩) (dpV hE hP hS (ci := 2) rfl (dat3 k0)) rfl rfl hl.1 rfl (lv_room (Nat.le_of_ble_eq_true rfl)) dX2_clear_5 ⟨Nat.le_of_ble_eq_true rfl, Nat.le_of_ble_eq_true rfl⟩) hS (fun H locs hP hS => ?_)
  obtain rfl := Option.some.inj h
  exact dtv S hr hlk hE hP hS dX2_clear_8
theorem dX2_isFound_0 : decode cX2_isFound 0 = .ok (.aload_n 0, 1) := by decide +kernel
theorem dX2_isFound_1 : decode cX2_isFound 1 = .ok (.getfield 9, 3) := by decide +kernel
theorem dX2_isFound_4 : decode cX2_isFound 4 = .ok (.iconst (-1), 1) := by decide +kernel
theorem dX2_isFound_5 : decode cX2_isFound 5 = .ok (.if_icmp .eq 7, 3) := by decide +kernel
theorem dX2_isFound_8 : decode cX2_isFound 8 = .ok (.iconst 1, 1) := by decide +kernel
theorem dX2_isFound_9 : decode cX2_isFound 9 = .ok (.goto 4, 3) := by decide +kernel
theorem dX2_isFound_12 : decode cX2_isFound 12 = .ok (.iconst 0, 1) := by decide +kernel
theorem dX2_isFound_13 : decode cX2_isFound 13 = .ok (.ireturn, 1) := by decide +kernel
def fX2_isFound (m : dM) (p0 : Nat) : Option Int32 := dg (dkg p0 3) (if (m.1 p0 0) = (-1) then some 0 else some 1)
set_option maxHeartbeats 4000000 in
set_option maxRecDepth 100000 in
theorem kX2_isFound (l : Launch) (g : dG) {m : dM} {p0 : Nat} {r0 : Int32} (h : fX2_isFound m p0 = some r0) : dMet l g yX2_isFound wsX2_isFound (dRm 0 0) [.ref (dad g p0)] m (dQI g r0 m) := by
  refine dof (cc := cX2_isFound) (maxL := 1) (ret := (some .boolean)) _ (plainFor_of_name (by decide)) rfl (Nat.le_of_ble_eq_true rfl) ?_
  intro p e s mth below meth c S hr hlk hE H ls hP hS hl
  have S : CallFix p mth c cX2_isFound 1 s _ wsX2_isFound RX2 := S
  have hl : lv_has ls 1 [(0, .ref (dad g p0))] := hl
  obtain ⟨locs, hlocs⟩ : ∃ z : List Loc, z = [] := ⟨_, rfl⟩
  rw [← hlocs] at hS ⊢
  have in2 : ∀ w ∈ wsX20, w ∈ wsX2_isFound := by decide +kernel
  unfold fX2_isFound at h
  obtain ⟨k0, h⟩ := d_g h
  have k0 := d_k k0
  refine lv_aload_n S.1 S.2.1 dX2_isFound_0 rfl (lv_at hl 0 rfl) ?_
  refine dgf2_0 S in2 hE hP k0 (S.2.2.2.2 (.fieldLink RX2 9 "DrillField$Fault" "count" "I") (List.mem_of_getElem? (i := 1) rfl)) dX2_isFound_1 ?_
  refine lv_iconst (v := (-1)) S.1 S.2.1 dX2_isFound_4 (by decide) ?_
  refine lv_icmp_eq (tgt := 12) S.1 S.2.1 dX2_isFound_5 (by decide) (fun cq => ?_) (fun cq => ?_)
  · have h := d_t cq h
    refine lv_iconst (v := 0) S.1 S.2.1 dX2_isFound_12 (by decide) ?_
    obtain rfl := Option.some.inj h
    exact dti S hr hlk hE hP hS rfl dX2_isFound_13
  · have h := d_f cq h
    refine lv_iconst (v := 1) S.1 S.2.1 dX2_isFound_8 (by decide) ?_
    refine lv_goto (tgt := 13) S.1 S.2.1 dX2_isFound_9 (by decide) ?_
    obtain rfl := Option.some.inj h
    exact dti S hr hlk hE hP hS rfl dX2_isFound_13
theorem dX2_isSameAs_0 : decode cX2_isSameAs 0 = .ok (.aload_n 0, 1) := by decide +kernel
theorem dX2_isSameAs_1 : decode cX2_isSameAs 1 = .ok (.getfield 9, 3) := by decide +kernel
theorem dX2_isSameAs_4 : decode cX2_isSameAs 4 = .ok (.aload_n 1, 1) := by decide +kernel
theorem dX2_isSameAs_5 : decode cX2_isSameAs 5 = .ok (.getfield 9, 3) := by decide +kernel
theorem dX2_isSameAs_8 : decode cX2_isSameAs 8 = .ok (.if_icmp .ne 40, 3) := by decide +kernel
theorem dX2_isSameAs_11 : decode cX2_isSameAs 11 = .ok (.aload_n 0, 1) := by decide +kernel
theorem dX2_isSameAs_12 : decode cX2_isSameAs 12 = .ok (.getfield 15, 3) := by decide +kernel
theorem dX2_isSameAs_15 : decode cX2_isSameAs 15 = .ok (.aload_n 1, 1) := by decide +kernel
theorem dX2_isSameAs_16 : decode cX2_isSameAs 16 = .ok (.getfield 15, 3) := by decide +kernel
theorem dX2_isSameAs_19 : decode cX2_isSameAs 19 = .ok (.if_icmp .ne 29, 3) := by decide +kernel
theorem dX2_isSameAs_22 : decode cX2_isSameAs 22 = .ok (.aload_n 0, 1) := by decide +kernel
theorem dX2_isSameAs_23 : decode cX2_isSameAs 23 = .ok (.getfield 18, 3) := by decide +kernel
theorem dX2_isSameAs_26 : decode cX2_isSameAs 26 = .ok (.aload_n 1, 1) := by decide +kernel
theorem dX2_isSameAs_27 : decode cX2_isSameAs 27 = .ok (.getfield 18, 3) := by decide +kernel
theorem dX2_isSameAs_30 : decode cX2_isSameAs 30 = .ok (.if_icmp .ne 18, 3) := by decide +kernel
theorem dX2_isSameAs_33 : decode cX2_isSameAs 33 = .ok (.aload_n 0, 1) := by decide +kernel
theorem dX2_isSameAs_34 : decode cX2_isSameAs 34 = .ok (.getfield 21, 3) := by decide +kernel
theorem dX2_isSameAs_37 : decode cX2_isSameAs 37 = .ok (.aload_n 1, 1) := by decide +kernel
theorem dX2_isSameAs_38 : decode cX2_isSameAs 38 = .ok (.getfield 21, 3) := by decide +kernel
theorem dX2_isSameAs_41 : decode cX2_isSameAs 41 = .ok (.if_icmp .ne 7, 3) := by decide +kernel
theorem dX2_isSameAs_44 : decode cX2_isSameAs 44 = .ok (.iconst 1, 1) := by decide +kernel
theorem dX2_isSameAs_45 : decode cX2_isSameAs 45 = .ok (.goto 4, 3) := by decide +kernel
theorem dX2_isSameAs_48 : decode cX2_isSameAs 48 = .ok (.iconst 0, 1) := by decide +kernel
theorem dX2_isSameAs_49 : decode cX2_isSameAs 49 = .ok (.ireturn, 1) := by decide +kernel
def fX2_isSameAs (m : dM) (p0 : Nat) (p1 : Nat) : Option Int32 := dg (dkg p0 3) (dg (dkg p1 3) (if (m.1 p0 0) = (m.1 p1 0) then if (m.1 p0 1) = (m.1 p1 1) then if (m.1 p0 2) = (m.1 p1 2) then if (m.1 p0 3) = (m.1 p1 3) then some 1 else some 0 else some 0 else some 0 else some 0))
set_option maxHeartbeats 4000000 in
set_option maxRecDepth 100000 in
theorem kX2_isSameAs (l : Launch) (g : dG) {m : dM} {p0 : Nat} {p1 : Nat} {r0 : Int32} (h : fX2_isSameAs m p0 p1 = some r0) : dMet l g yX2_isSameAs wsX2_isSameAs (dRm 0 0) [.ref (dad g p0), .ref (dad g p1)] m (dQI g r0 m) := by
  refine dof (cc := cX2_isSameAs) (maxL := 2) (ret := (some .boolean)) _ (plainFor_of_name (by decide)) rfl (Nat.le_of_ble_eq_true rfl) ?_
  intro p e s mth below meth c S hr hlk hE H ls hP hS hl
  have S : CallFix p mth c cX2_isSameAs 2 s _ wsX2_isSameAs RX2 := S
  have hl : lv_has ls 2 [(0, .ref (dad g p0)), (1, .ref (dad g p1))] := hl
  obtain ⟨locs, hlocs⟩ : ∃ z : List Loc, z = [] := ⟨_, rfl⟩
  rw [← hlocs] at hS ⊢
  have in2 : ∀ w ∈ wsX20, w ∈ wsX2_isSameAs := by decide +kernel
  unfold fX2_isSameAs at h
  obtain ⟨k0, h⟩ := d_g h
  have k0 := d_k k0
  obtain ⟨k1, h⟩ := d_g h
  have k1 := d_k k1
  refine lv_aload_n S.1 S.2.1 dX2_isSameAs_0 rfl (lv_at hl 0 rfl) ?_
  refine dgf2_0 S in2 hE hP k0 (S.2.2.2.2 (.fieldLink RX2 9 "DrillField$Fault" "count" "I") (List.mem_of_getElem? (i := 1) rfl)) dX2_isSameAs_1 ?_
  refine lv_aload_n S.1 S.2.1 dX2_isSameAs_4 rfl (lv_at hl 1 rfl) ?_
  refine dgf2_0 S in2 hE hP k1 (S.2.2.2.2 (.fieldLink RX2 9 "DrillField$Fault" "count" "I") (List.mem_of_getElem? (i := 1) rfl)) dX2_isSameAs_5 ?_
  refine lv_icmp_ne (tgt := 48) S.1 S.2.1 dX2_isSameAs_8 (by decide) (fun cq => ?_) (fun cq => ?_)
  · have h := d_f cq h
    refine lv_iconst (v := 0) S.1 S.2.1 dX2_isSameAs_48 (by decide) ?_
    obtain rfl := Option.some.inj h
    exact dti S hr hlk hE hP hS rfl dX2_isSameAs_49
  · have h := d_t cq h
    refine lv_aload_n S.1 S.2.1 dX2_isSameAs_11 rfl (lv_at hl 0 rfl) ?_
    refine dgf2_1 S in2 hE hP k0 (S.2.2.2.2 (.fieldLink RX2 15 "DrillField$Fault" "kind" "I") (List.mem_of_getElem? (i := 2) rfl)) dX2_isSameAs_12 ?_
    refine lv_aload_n S.1 S.2.1 dX2_isSameAs_15 rfl (lv_at hl 1 rfl) ?_
    refine dgf2_1 S in2 hE hP k1 (S.2.2.2.2 (.fieldLink RX2 15 "DrillField$Fault" "kind" "I") (List.mem_of_getElem? (i := 2) rfl)) dX2_isSameAs_16 ?_
    refine lv_icmp_ne (tgt := 48) S.1 S.2.1 dX2_isSameAs_19 (by decide) (fun cq => ?_) (fun cq => ?_)
    · have h := d_f cq h
      refine lv_iconst (v := 0) S.1 S.2.1 dX2_isSameAs_48 (by decide) ?_
      obtain rfl := Option.some.inj h
      exact dti S hr hlk hE hP hS rfl dX2_isSameAs_49
    · have h := d_t cq h
      refine lv_aload_n S.1 S.2.1 dX2_isSameAs_22 rfl (lv_at hl 0 rfl) ?_
      refine dgf2_2 S in2 hE hP k0 (S.2.2.2.2 (.fieldLink RX2 18 "DrillField$Fault" "dot" "I") (List.mem_of_getElem? (i := 3) rfl)) dX2_isSameAs_23 ?_
      refine lv_aload_n S.1 S.2.1 dX2_isSameAs_26 rfl (lv_at hl 1 rfl) ?_
      refine dgf2_2 S in2 hE hP k1 (S.2.2.2.2 (.fieldLink RX2 18 "DrillField$Fault" "dot" "I") (List.mem_of_getElem? (i := 3) rfl)) dX2_isSameAs_27 ?_
      refine lv_icmp_ne (tgt := 48) S.1 S.2.1 dX2_isSameAs_30 (by decide) (fun cq => ?_) (fun cq => ?_)
      · have h := d_f cq h
        refine lv_iconst (v := 0) S.1 S.2.1 dX2_isSameAs_48 (by decide) ?_
        obtain rfl := Option.some.inj h
        exact dti S hr hlk hE hP hS rfl dX2_isSameAs_49
      · have h := d_t cq h
        refine lv_aload_n S.1 S.2.1 dX2_isSameAs_33 rfl (lv_at hl 0 rfl) ?_
        refine dgf2_3 S in2 hE hP k0 (S.2.2.2.2 (.fieldLink RX2 21 "DrillField$Fault" "other" "I") (List.mem_of_getElem? (i := 4) rfl)) dX2_isSameAs_34 ?_
        refine lv_aload_n S.1 S.2.1 dX2_isSameAs_37 rfl (lv_at hl 1 rfl) ?_
        refine dgf2_3 S in2 hE hP k1 (S.2.2.2.2 (.fieldLink RX2 21 "DrillField$Fault" "other" "I") (List.mem_of_getElem? (i := 4) rfl)) dX2_isSameAs_38 ?_
        refine lv_icmp_ne (tgt := 48) S.1 S.2.1 dX2_isSameAs_41 (by decide) (fun cq => ?_) (fun cq => ?_)
        · have h := d_f cq h
          refine lv_iconst (v := 0) S.1 S.2.1 dX2_isSameAs_48 (by decide) ?_
          obtain rfl := Option.some.inj h
          exact dti S hr hlk hE hP hS rfl dX2_isSameAs_49
        · have h := d_t cq h
          refine lv_iconst (v := 1) S.1 S.2.1 dX2_isSameAs_44 (by decide) ?_
          refine lv_goto (tgt := 49) S.1 S.2.1 dX2_isSameAs_45 (by decide) ?_
          obtain rfl := Option.some.inj h
          exact dti S hr hlk hE hP hS rfl dX2_isSameAs_49
theorem dX2_said_0 : decode cX2_said 0 = .ok (.iload_n 1, 1) := by decide +kernel
theorem dX2_said_1 : decode cX2_said 1 = .ok (.tableswitch 42 0 2 #[27, 32, 37], 27) := by decide +kernel
theorem dX2_said_28 : decode cX2_said 28 = .ok (.aload_n 0, 1) := by decide +kernel
theorem dX2_said_29 : decode cX2_said 29 = .ok (.getfield 9, 3) := by decide +kernel
theorem dX2_said_32 : decode cX2_said 32 = .ok (.ireturn, 1) := by decide +kernel
theorem dX2_said_33 : decode cX2_said 33 = .ok (.aload_n 0, 1) := by decide +kernel
theorem dX2_said_34 : decode cX2_said 34 = .ok (.getfield 15, 3) := by decide +kernel
theorem dX2_said_37 : decode cX2_said 37 = .ok (.ireturn, 1) := by decide +kernel
theorem dX2_said_38 : decode cX2_said 38 = .ok (.aload_n 0, 1) := by decide +kernel
theorem dX2_said_39 : decode cX2_said 39 = .ok (.getfield 18, 3) := by decide +kernel
theorem dX2_said_42 : decode cX2_said 42 = .ok (.ireturn, 1) := by decide +kernel
theorem dX2_said_43 : decode cX2_said 43 = .ok (.aload_n 0, 1) := by decide +kernel
theorem dX2_said_44 : decode cX2_said 44 = .ok (.getfield 21, 3) := by decide +kernel
theorem dX2_said_47 : decode cX2_said 47 = .ok (.ireturn, 1) := by decide +kernel
def fX2_said (m : dM) (p0 : Nat) (p1 : Int32) : Option Int32 := dg (dkg p0 3) (if p1 = 0 then some (m.1 p0 0) else if p1 = 1 then some (m.1 p0 1) else if p1 = 2 then some (m.1 p0 2) else some (m.1 p0 3))
set_option maxHeartbeats 4000000 in
set_option maxRecDepth 100000 in
theorem kX2_said (l : Launch) (g : dG) {m : dM} {p0 : Nat} {p1 : Int32} {r0 : Int32} (h : fX2_said m p0 p1 = some r0) : dMet l g yX2_said wsX2_said (dRm 0 0) [.ref (dad g p0), .int p1] m (dQI g r0 m) := by
  refine dof (cc := cX2_said) (maxL := 2) (ret := (some .int)) _ (plainFor_of_name (by decide)) rfl (Nat.le_of_ble_eq_true rfl) ?_
  intro p e s mth below meth c S hr hlk hE H ls hP hS hl
  have S : CallFix p mth c cX2_said 2 s _ wsX2_said RX2 := S
  have hl : lv_has ls 2 [(0, .ref (dad g p0)), (1, .int p1)] := hl
  obtain ⟨locs, hlocs⟩ : ∃ z : List Loc, z = [] := ⟨_, rfl⟩
  rw [← hlocs] at hS ⊢
  have in2 : ∀ w ∈ wsX20, w ∈ wsX2_said := by decide +kernel
  unfold fX2_said at h
  obtain ⟨k0, h⟩ := d_g h
  have k0 := d_k k0
  refine lv_iload_n S.1 S.2.1 dX2_said_0 rfl (lv_at hl 1 rfl) ?_
  by_cases c0 : p1 = 0
  · have h := d_t c0 h
    refine lv_tableIn (off := 27) (tgt := 28) S.1 S.2.1 dX2_said_1 (by rw [c0]; decide) (by rw [c0]; decide) (by rw [c0]; rfl) (by decide) ?_
    refine lv_aload_n S.1 S.2.1 dX2_said_28 rfl (lv_at hl 0 rfl) ?_
    refine dgf2_0 S in2 hE hP k0 (S.2.2.2.2 (.fieldLink RX2 9 "DrillField$Fault" "count" "I") (List.mem_of_getElem? (i := 1) rfl)) dX2_said_29 ?_
    obtain rfl := Option.some.inj h
    exact dti S hr hlk hE hP hS rfl dX2_said_32
  · have h := d_f c0 h
    by_cases c1 : p1 = 1
    · have h := d_t c1 h
      refine lv_tableIn (off := 32) (tgt := 33) S.1 S.2.1 dX2_said_1 (by rw [c1]; decide) (by rw [c1]; decide) (by rw [c1]; rfl) (by decide) ?_
      refine lv_aload_n S.1 S.2.1 dX2_said_33 rfl (lv_at hl 0 rfl) ?_
      refine dgf2_1 S in2 hE hP k0 (S.2.2.2.2 (.fieldLink RX2 15 "DrillField$Fault" "kind" "I") (List.mem_of_getElem? (i := 2) rfl)) dX2_said_34 ?_
      obtain rfl := Option.some.inj h
      exact dti S hr hlk hE hP hS rfl dX2_said_37
    · have h := d_f c1 h
      by_cases c2 : p1 = 2
      · have h := d_t c2 h
        refine lv_tableIn (off := 37) (tgt := 38) S.1 S.2.1 dX2_said_1 (by rw [c2]; decide) (by rw [c2]; decide) (by rw [c2]; rfl) (by decide) ?_
        refine lv_aload_n S.1 S.2.1 dX2_said_38 rfl (lv_at hl 0 rfl) ?_
        refine dgf2_2 S in2 hE hP k0 (S.2.2.2.2 (.fieldLink RX2 18 "DrillField$Fault" "dot" "I") (List.mem_of_getElem? (i := 3) rfl)) dX2_said_39 ?_
        obtain rfl := Option.some.inj h
        exact dti S hr hlk hE hP hS rfl dX2_said_42
      · have h := d_f c2 h
        refine lv_tableOut (tgt := 43) S.1 S.2.1 dX2_said_1 (d_sw3 c0 c1 c2) (by decide) ?_
        refine lv_aload_n S.1 S.2.1 dX2_said_43 rfl (lv_at hl 0 rfl) ?_
        refine dgf2_3 S in2 hE hP k0 (S.2.2.2.2 (.fieldLink RX2 21 "DrillField$Fault" "other" "I") (List.mem_of_getElem? (i := 4) rfl)) dX2_said_44 ?_
        obtain rfl := Option.some.inj h
        exact dti S hr hlk hE hP hS rfl dX2_said_47
set_option maxRecDepth 20000 in
theorem ggX9_squareTo_X11_isInRow : GoodIn wsX9_squareTo wsX11_isInRow := goodIn_r _ [5] (by decide +kernel) (by decide +kernel)
set_option maxRecDepth 20000 in
theorem gX9_squareTo_X11_isInRow_n18 : GoodIn wsX9_squareTo (wsX11_isInRow) := ggX9_squareTo_X11_isInRow
set_option maxRecDepth 20000 in
theorem ggX9_squareTo_X11_square : GoodIn wsX9_squareTo wsX11_square := goodIn_r _ [7] (by decide +kernel) (by decide +kernel)
set_option maxRecDepth 20000 in
theorem gX9_squareTo_X11_square_n33 : GoodIn wsX9_squareTo (wsX11_square) := ggX9_squareTo_X11_square
theorem dX9_squareTo_0 : decode cX9_squareTo 0 = .ok (.iload_n 1, 1) := by decide +kernel
theorem dX9_squareTo_1 : decode cX9_squareTo 1 = .ok (.invokestatic 18, 3) := by decide +kernel
theorem dX9_squareTo_4 : decode cX9_squareTo 4 = .ok (.ifCond .eq 10, 3) := by decide +kernel
theorem dX9_squareTo_7 : decode cX9_squareTo 7 = .ok (.iload_n 3, 1) := by decide +kernel
theorem dX9_squareTo_8 : decode cX9_squareTo 8 = .ok (.invokestatic 18, 3) := by decide +kernel
theorem dX9_squareTo_11 : decode cX9_squareTo 11 = .ok (.ifCond .ne 5, 3) := by decide +kernel
theorem dX9_squareTo_14 : decode cX9_squareTo 14 = .ok (.iconst 0, 1) := by decide +kernel
theorem dX9_squareTo_15 : decode cX9_squareTo 15 = .ok (.ireturn, 1) := by decide +kernel
theorem dX9_squareTo_16 : decode cX9_squareTo 16 = .ok (.aload_n 0, 1) := by decide +kernel
theorem dX9_squareTo_17 : decode cX9_squareTo 17 = .ok (.getfield 9, 3) := by decide +kernel
theorem dX9_squareTo_20 : decode cX9_squareTo 20 = .ok (.iload_n 1, 1) := by decide +kernel
theorem dX9_squareTo_21 : decode cX9_squareTo 21 = .ok (.iaload, 1) := by decide +kernel
theorem dX9_squareTo_22 : decode cX9_squareTo 22 = .ok (.aload_n 2, 1) := by decide +kernel
theorem dX9_squareTo_23 : decode cX9_squareTo 23 = .ok (.getfield 9, 3) := by decide +kernel
theorem dX9_squareTo_26 : decode cX9_squareTo 26 = .ok (.iload_n 3, 1) := by decide +kernel
theorem dX9_squareTo_27 : decode cX9_squareTo 27 = .ok (.iaload, 1) := by decide +kernel
theorem dX9_squareTo_28 : decode cX9_squareTo 28 = .ok (.isub, 1) := by decide +kernel
theorem dX9_squareTo_29 : decode cX9_squareTo 29 = .ok (.aload_n 0, 1) := by decide +kernel
theorem dX9_squareTo_30 : decode cX9_squareTo 30 = .ok (.getfield 15, 3) := by decide +kernel
theorem dX9_squareTo_33 : decode cX9_squareTo 33 = .ok (.iload_n 1, 1) := by decide +kernel
theorem dX9_squareTo_34 : decode cX9_squareTo 34 = .ok (.iaload, 1) := by decide +kernel
theorem dX9_squareTo_35 : decode cX9_squareTo 35 = .ok (.aload_n 2, 1) := by decide +kernel
theorem dX9_squareTo_36 : decode cX9_squareTo 36 = .ok (.getfield 15, 3) := by decide +kernel
theorem dX9_squareTo_39 : decode cX9_squareTo 39 = .ok (.iload_n 3, 1) := by decide +kernel
theorem dX9_squareTo_40 : decode cX9_squareTo 40 = .ok (.iaload, 1) := by decide +kernel
theorem dX9_squareTo_41 : decode cX9_squareTo 41 = .ok (.isub, 1) := by decide +kernel
theorem dX9_squareTo_42 : decode cX9_squareTo 42 = .ok (.invokestatic 33, 3) := by decide +kernel
theorem dX9_squareTo_45 : decode cX9_squareTo 45 = .ok (.ireturn, 1) := by decide +kernel
def fX9_squareTo (m : dM) (p0 : Nat) (p1 : Int32) (p2 : Nat) (p3 : Int32) : Option Int32 := dg (dkg p0 10) (dg (dkg p2 10) ((fX11_isInRow m p1).bind (fun v2 => if v2 = 0 then some 0 else (fX11_isInRow m p3).bind (fun v4 => if v4 = 0 then some 0 else dg (dIx p1 (dL (p0 + 1))) (dg (dIx p3 (dL (p2 + 1))) (dg (dIx p1 (dL (p0 + 2))) (dg (dIx p3 (dL (p2 + 2))) ((fX11_square m ((m.1 (p0 + 1) (Int32.toNatClampNeg (p1))) - (m.1 (p2 + 1) (Int32.toNatClampNeg (p3)))) ((m.1 (p0 + 2) (Int32.toNatClampNeg (p1))) - (m.1 (p2 + 2) (Int32.toNatClampNeg (p3))))).bind (fun v6 => some v6)))))))))
set_option maxHeartbeats 4000000 in
set_option maxRecDepth 100000 in
theorem kX9_squareTo (l : Launch) (g : dG) {m : dM} {p0 : Nat} {p1 : Int32} {p2 : Nat} {p3 : Int32} {r0 : Int32} (h : fX9_squareTo m p0 p1 p2 p3 = some r0) : dMet l g yX9_squareTo wsX9_squareTo (dRm 1 21) [.ref (dad g p0), .int p1, .ref (dad g p2), .int p3] m (dQI g r0 m) := by
  refine dof (cc := cX9_squareTo) (maxL := 4) (ret := (some .int)) _ (plainFor_of_name (by decide)) rfl (Nat.le_of_ble_eq_true rfl) ?_
  intro p e s mth below meth c S hr hlk hE H ls hP hS hl
  have S : CallFix p mth c cX9_squareTo 4 s _ wsX9_squareTo RX9 := S
  have hl : lv_has ls 4 [(0, .ref (dad g p0)), (1, .int p1), (2, .ref (dad g p2)), (3, .int p3)] := hl
  obtain ⟨locs, hlocs⟩ : ∃ z : List Loc, z = [] := ⟨_, rfl⟩
  rw [← hlocs] at hS ⊢
  have in9 : ∀ w ∈ wsX90, w ∈ wsX9_squareTo := by decide +kernel
  unfold fX9_squareTo at h
  obtain ⟨k0, h⟩ := d_g h
  have k0 := d_k k0
  obtain ⟨k2, h⟩ := d_g h
  have k2 := d_k k2
  refine lv_iload_n S.1 S.2.1 dX9_squareTo_0 rfl (lv_at hl 1 rfl) ?_
  obtain ⟨v2, hc1, h⟩ := d_b h
  refine dri (va_runSN (As := [.int p1]) (rest := []) S (kX11_isInRow l g hc1) ⟨va_cnB 1 S.2.2.2.2 gX9_squareTo_X11_isInRow_n18 rfl rfl rfl (dnq_RX9_18 hE) (S.2.2.2.2 (.initialized RX11) (List.mem_of_getElem? (i := 4) rfl)) ynX11_isInRow ⟨Nat.le_of_ble_eq_true rfl, Nat.le_of_ble_eq_true rfl⟩, S.2.2.2.2 (.static yX11_isInRow) (List.mem_of_getElem? (i := 3) rfl), trivial⟩ (dpS hE hP hS) rfl rfl hl.1 rfl (lv_room (Nat.le_of_ble_eq_true rfl)) dX9_squareTo_1 ⟨Nat.le_of_ble_eq_true rfl, Nat.le_of_ble_eq_true rfl⟩) hS (fun H locs hP hS => ?_)
  refine lv_if_eq (tgt := 14) S.1 S.2.1 dX9_squareTo_4 (by decide) (fun cq => ?_) (fun cq => ?_)
  · have h := d_t cq h
    refine lv_iconst (v := 0) S.1 S.2.1 dX9_squareTo_14 (by decide) ?_
    obtain rfl := Option.some.inj h
    exact dti S hr hlk hE hP hS rfl dX9_squareTo_15
  · have h := d_f cq h
    refine lv_iload_n S.1 S.2.1 dX9_squareTo_7 rfl (lv_at hl 3 rfl) ?_
    obtain ⟨v4, hc3, h⟩ := d_b h
    refine dri (va_runSN (As := [.int p3]) (rest := []) S (kX11_isInRow l g hc3) ⟨va_cnB 1 S.2.2.2.2 gX9_squareTo_X11_isInRow_n18 rfl rfl rfl (dnq_RX9_18 hE) (S.2.2.2.2 (.initialized RX11) (List.mem_of_getElem? (i := 4) rfl)) ynX11_isInRow ⟨Nat.le_of_ble_eq_true rfl, Nat.le_of_ble_eq_true rfl⟩, S.2.2.2.2 (.static yX11_isInRow) (List.mem_of_getElem? (i := 3) rfl), trivial⟩ (dpS hE hP hS) rfl rfl hl.1 rfl (lv_room (Nat.le_of_ble_eq_true rfl)) dX9_squareTo_8 ⟨Nat.le_of_ble_eq_true rfl, Nat.le_of_ble_eq_true rfl⟩) hS (fun H locs hP hS => ?_)
    refine lv_if_ne (tgt := 16) S.1 S.2.1 dX9_squareTo_11 (by decide) (fun cq => ?_) (fun cq => ?_)
    · have h := d_f cq h
      refine lv_aload_n S.1 S.2.1 dX9_squareTo_16 rfl (lv_at hl 0 rfl) ?_
      refine dgf9_0 S in9 hE hP k0 (S.2.2.2.2 (.fieldLink RX9 9 "DrillField$Spots" "xs" "[I") (List.mem_of_getElem? (i := 1) rfl)) dX9_squareTo_17 ?_
      refine lv_iload_n S.1 S.2.1 dX9_squareTo_20 rfl (lv_at hl 1 rfl) ?_
      obtain ⟨hi, h⟩ := d_g h
      refine d_iald S hE hP (dkr10_1 k0) hi dX9_squareTo_21 ?_
      refine lv_aload_n S.1 S.2.1 dX9_squareTo_22 rfl (lv_at hl 2 rfl) ?_
      refine dgf9_0 S in9 hE hP k2 (S.2.2.2.2 (.fieldLink RX9 9 "DrillField$Spots" "xs" "[I") (List.mem_of_getElem? (i := 1) rfl)) dX9_squareTo_23 ?_
      refine lv_iload_n S.1 S.2.1 dX9_squareTo_26 rfl (lv_at hl 3 rfl) ?_
      obtain ⟨hi, h⟩ := d_g h
      refine d_iald S hE hP (dkr10_1 k2) hi dX9_squareTo_27 ?_
      refine lv_isub S.1 S.2.1 dX9_squareTo_28 ?_
      refine lv_aload_n S.1 S.2.1 dX9_squareTo_29 rfl (lv_at hl 0 rfl) ?_
      refine dgf9_1 S in9 hE hP k0 (S.2.2.2.2 (.fieldLink RX9 15 "DrillField$Spots" "ys" "[I") (List.mem_of_getElem? (i := 2) rfl)) dX9_squareTo_30 ?_
      refine lv_iload_n S.1 S.2.1 dX9_squareTo_33 rfl (lv_at hl 1 rfl) ?_
      obtain ⟨hi, h⟩ := d_g h
      refine d_iald S hE hP (dkr10_2 k0) hi dX9_squareTo_34 ?_
      refine lv_aload_n S.1 S.2.1 dX9_squareTo_35 rfl (lv_at hl 2 rfl) ?_
      refine dgf9_1 S in9 hE hP k2 (S.2.2.2.2 (.fieldLink RX9 15 "DrillField$Spots" "ys" "[I") (List.mem_of_getElem? (i := 2) rfl)) dX9_squareTo_36 ?_
      refine lv_iload_n S.1 S.2.1 dX9_squareTo_39 rfl (lv_at hl 3 rfl) ?_
      obtain ⟨hi, h⟩ := d_g h
      refine d_iald S hE hP (dkr10_2 k2) hi dX9_squareTo_40 ?_
      refine lv_isub S.1 S.2.1 dX9_squareTo_41 ?_
      obtain ⟨v6, hc5, h⟩ := d_b h
      refine dri (va_runSN (As := [.int ((m.1 (p0 + 1) (Int32.toNatClampNeg (p1))) - (m.1 (p2 + 1) (Int32.toNatClampNeg (p3)))), .int ((m.1 (p0 + 2) (Int32.toNatClampNeg (p1))) - (m.1 (p2 + 2) (Int32.toNatClampNeg (p3))))]) (rest := []) S (kX11_square l g hc5) ⟨va_cnB 2 S.2.2.2.2 gX9_squareTo_X11_square_n33 rfl rfl rfl (dnq_RX9_33 hE) (S.2.2.2.2 (.initialized RX11) (List.mem_of_getElem? (i := 4) rfl)) ynX11_square ⟨Nat.le_of_ble_eq_true rfl, Nat.le_of_ble_eq_true rfl⟩, S.2.2.2.2 (.static yX11_square) (List.mem_of_getElem? (i := 6) rfl), trivial⟩ (dpS hE hP hS) rfl rfl hl.1 rfl (lv_room (Nat.le_of_ble_eq_true rfl)) dX9_squareTo_42 ⟨Nat.le_of_ble_eq_true rfl, Nat.le_of_ble_eq_true rfl⟩) hS (fun H locs hP hS => ?_)
      obtain rfl := Option.some.inj h
      exact dti S hr hlk hE hP hS rfl dX9_squareTo_45
    · have h := d_t cq h
      refine lv_iconst (v := 0) S.1 S.2.1 dX9_squareTo_14 (by decide) ?_
      obtain rfl := Option.some.inj h
      exact dti S hr hlk hE hP hS rfl dX9_squareTo_15
set_option maxRecDepth 20000 in
theorem ggX9_x_X11_isInRow : GoodIn wsX9_x wsX11_isInRow := goodIn_r _ [4] (by decide +kernel) (by decide +kernel)
set_option maxRecDepth 20000 in
theorem gX9_x_X11_isInRow_n18 : GoodIn wsX9_x (wsX11_isInRow) := ggX9_x_X11_isInRow
theorem dX9_x_0 : decode cX9_x 0 = .ok (.iload_n 1, 1) := by decide +kernel
theorem dX9_x_1 : decode cX9_x 1 = .ok (.invokestatic 18, 3) := by decide +kernel
theorem dX9_x_4 : decode cX9_x 4 = .ok (.ifCond .eq 12, 3) := by decide +kernel
theorem dX9_x_7 : decode cX9_x 7 = .ok (.aload_n 0, 1) := by decide +kernel
theorem dX9_x_8 : decode cX9_x 8 = .ok (.getfield 9, 3) := by decide +kernel
theorem dX9_x_11 : decode cX9_x 11 = .ok (.iload_n 1, 1) := by decide +kernel
theorem dX9_x_12 : decode cX9_x 12 = .ok (.iaload, 1) := by decide +kernel
theorem dX9_x_13 : decode cX9_x 13 = .ok (.goto 4, 3) := by decide +kernel
theorem dX9_x_16 : decode cX9_x 16 = .ok (.iconst 0, 1) := by decide +kernel
theorem dX9_x_17 : decode cX9_x 17 = .ok (.ireturn, 1) := by decide +kernel
def fX9_x (m : dM) (p0 : Nat) (p1 : Int32) : Option Int32 := dg (dkg p0 10) ((fX11_isInRow m p1).bind (fun v2 => if v2 = 0 then some 0 else dg (dIx p1 (dL (p0 + 1))) (some (m.1 (p0 + 1) (Int32.toNatClampNeg (p1))))))
set_option maxHeartbeats 4000000 in
set_option maxRecDepth 100000 in
theorem kX9_x (l : Launch) (g : dG) {m : dM} {p0 : Nat} {p1 : Int32} {r0 : Int32} (h : fX9_x m p0 p1 = some r0) : dMet l g yX9_x wsX9_x (dRm 1 20) [.ref (dad g p0), .int p1] m (dQI g r0 m) := by
  refine dof (cc := cX9_x) (maxL := 2) (ret := (some .int)) _ (plainFor_of_name (by decide)) rfl (Nat.le_of_ble_eq_true rfl) ?_
  intro p e s mth below meth c S hr hlk hE H ls hP hS hl
  have S : CallFix p mth c cX9_x 2 s _ wsX9_x RX9 := S
  have hl : lv_has ls 2 [(0, .ref (dad g p0)), (1, .int p1)] := hl
  obtain ⟨locs, hlocs⟩ : ∃ z : List Loc, z = [] := ⟨_, rfl⟩
  rw [← hlocs] at hS ⊢
  have in9 : ∀ w ∈ wsX90, w ∈ wsX9_x := by decide +kernel
  unfold fX9_x at h
  obtain ⟨k0, h⟩ := d_g h
  have k0 := d_k k0
  refine lv_iload_n S.1 S.2.1 dX9_x_0 rfl (lv_at hl 1 rfl) ?_
  obtain ⟨v2, hc1, h⟩ := d_b h
  refine dri (va_runSN (As := [.int p1]) (rest := []) S (kX11_isInRow l g hc1) ⟨va_cnB 1 S.2.2.2.2 gX9_x_X11_isInRow_n18 rfl rfl rfl (dnq_RX9_18 hE) (S.2.2.2.2 (.initialized RX11) (List.mem_of_getElem? (i := 3) rfl)) ynX11_isInRow ⟨Nat.le_of_ble_eq_true rfl, Nat.le_of_ble_eq_true rfl⟩, S.2.2.2.2 (.static yX11_isInRow) (List.mem_of_getElem? (i := 2) rfl), trivial⟩ (dpS hE hP hS) rfl rfl hl.1 rfl (lv_room (Nat.le_of_ble_eq_true rfl)) dX9_x_1 ⟨Nat.le_of_ble_eq_true rfl, Nat.le_of_ble_eq_true rfl⟩) hS (fun H locs hP hS => ?_)
  refine lv_if_eq (tgt := 16) S.1 S.2.1 dX9_x_4 (by decide) (fun cq => ?_) (fun cq => ?_)
  · have h := d_t cq h
    refine lv_iconst (v := 0) S.1 S.2.1 dX9_x_16 (by decide) ?_
    obtain rfl := Option.some.inj h
    exact dti S hr hlk hE hP hS rfl dX9_x_17
  · have h := d_f cq h
    refine lv_aload_n S.1 S.2.1 dX9_x_7 rfl (lv_at hl 0 rfl) ?_
    refine dgf9_0 S in9 hE hP k0 (S.2.2.2.2 (.fieldLink RX9 9 "DrillField$Spots" "xs" "[I") (List.mem_of_getElem? (i := 1) rfl)) dX9_x_8 ?_
    refine lv_iload_n S.1 S.2.1 dX9_x_11 rfl (lv_at hl 1 rfl) ?_
    obtain ⟨hi, h⟩ := d_g h
    refine d_iald S hE hP (dkr10_1 k0) hi dX9_x_12 ?_
    refine lv_goto (tgt := 17) S.1 S.2.1 dX9_x_13 (by decide) ?_
    obtain rfl := Option.some.inj h
    exact dti S hr hlk hE hP hS rfl dX9_x_17
set_option maxRecDepth 20000 in
theorem ggX9_y_X11_isInRow : GoodIn wsX9_y wsX11_isInRow := goodIn_r _ [4] (by decide +kernel) (by decide +kernel)
set_option maxRecDepth 20000 in
theorem gX9_y_X11_isInRow_n18 : GoodIn wsX9_y (wsX11_isInRow) := ggX9_y_X11_isInRow
theorem dX9_y_0 : decode cX9_y 0 = .ok (.iload_n 1, 1) := by decide +kernel
theorem dX9_y_1 : decode cX9_y 1 = .ok (.invokestatic 18, 3) := by decide +kernel
theorem dX9_y_4 : decode cX9_y 4 = .ok (.ifCond .eq 12, 3) := by decide +kernel
theorem dX9_y_7 : decode cX9_y 7 = .ok (.aload_n 0, 1) := by decide +kernel
theorem dX9_y_8 : decode cX9_y 8 = .ok (.getfield 15, 3) := by decide +kernel
theorem dX9_y_11 : decode cX9_y 11 = .ok (.iload_n 1, 1) := by decide +kernel
theorem dX9_y_12 : decode cX9_y 12 = .ok (.iaload, 1) := by decide +kernel
theorem dX9_y_13 : decode cX9_y 13 = .ok (.goto 4, 3) := by decide +kernel
theorem dX9_y_16 : decode cX9_y 16 = .ok (.iconst 0, 1) := by decide +kernel
theorem dX9_y_17 : decode cX9_y 17 = .ok (.ireturn, 1) := by decide +kernel
def fX9_y (m : dM) (p0 : Nat) (p1 : Int32) : Option Int32 := dg (dkg p0 10) ((fX11_isInRow m p1).bind (fun v2 => if v2 = 0 then some 0 else dg (dIx p1 (dL (p0 + 2))) (some (m.1 (p0 + 2) (Int32.toNatClampNeg (p1))))))
set_option maxHeartbeats 4000000 in
set_option maxRecDepth 100000 in
theorem kX9_y (l : Launch) (g : dG) {m : dM} {p0 : Nat} {p1 : Int32} {r0 : Int32} (h : fX9_y m p0 p1 = some r0) : dMet l g yX9_y wsX9_y (dRm 1 20) [.ref (dad g p0), .int p1] m (dQI g r0 m) := by
  refine dof (cc := cX9_y) (maxL := 2) (ret := (some .int)) _ (plainFor_of_name (by decide)) rfl (Nat.le_of_ble_eq_true rfl) ?_
  intro p e s mth below meth c S hr hlk hE H ls hP hS hl
  have S : CallFix p mth c cX9_y 2 s _ wsX9_y RX9 := S
  have hl : lv_has ls 2 [(0, .ref (dad g p0)), (1, .int p1)] := hl
  obtain ⟨locs, hlocs⟩ : ∃ z : List Loc, z = [] := ⟨_, rfl⟩
  rw [← hlocs] at hS ⊢
  have in9 : ∀ w ∈ wsX90, w ∈ wsX9_y := by decide +kernel
  unfold fX9_y at h
  obtain ⟨k0, h⟩ := d_g h
  have k0 := d_k k0
  refine lv_iload_n S.1 S.2.1 dX9_y_0 rfl (lv_at hl 1 rfl) ?_
  obtain ⟨v2, hc1, h⟩ := d_b h
  refine dri (va_runSN (As := [.int p1]) (rest := []) S (kX11_isInRow l g hc1) ⟨va_cnB 1 S.2.2.2.2 gX9_y_X11_isInRow_n18 rfl rfl rfl (dnq_RX9_18 hE) (S.2.2.2.2 (.initialized RX11) (List.mem_of_getElem? (i := 3) rfl)) ynX11_isInRow ⟨Nat.le_of_ble_eq_true rfl, Nat.le_of_ble_eq_true rfl⟩, S.2.2.2.2 (.static yX11_isInRow) (List.mem_of_getElem? (i := 2) rfl), trivial⟩ (dpS hE hP hS) rfl rfl hl.1 rfl (lv_room (Nat.le_of_ble_eq_true rfl)) dX9_y_1 ⟨Nat.le_of_ble_eq_true rfl, Nat.le_of_ble_eq_true rfl⟩) hS (fun H locs hP hS => ?_)
  refine lv_if_eq (tgt := 16) S.1 S.2.1 dX9_y_4 (by decide) (fun cq => ?_) (fun cq => ?_)
  · have h := d_t cq h
    refine lv_iconst (v := 0) S.1 S.2.1 dX9_y_16 (by decide) ?_
    obtain rfl := Option.some.inj h
    exact dti S hr hlk hE hP hS rfl dX9_y_17
  · have h := d_f cq h
    refine lv_aload_n S.1 S.2.1 dX9_y_7 rfl (lv_at hl 0 rfl) ?_
    refine dgf9_1 S in9 hE hP k0 (S.2.2.2.2 (.fieldLink RX9 15 "DrillField$Spots" "ys" "[I") (List.mem_of_getElem? (i := 1) rfl)) dX9_y_8 ?_
    refine lv_iload_n S.1 S.2.1 dX9_y_11 rfl (lv_at hl 1 rfl) ?_
    obtain ⟨hi, h⟩ := d_g h
    refine d_iald S hE hP (dkr10_2 k0) hi dX9_y_12 ?_
    refine lv_goto (tgt := 17) S.1 S.2.1 dX9_y_13 (by decide) ?_
    obtain rfl := Option.some.inj h
    exact dti S hr hlk hE hP hS rfl dX9_y_17
set_option maxRecDepth 20000 in
theorem ggX9_put_X11_isInRow : GoodIn wsX9_put wsX11_isInRow := goodIn_r _ [5] (by decide +kernel) (by decide +kernel)
set_option maxRecDepth 20000 in
theorem gX9_put_X11_isInRow_n18 : GoodIn wsX9_put (wsX11_isInRow) := ggX9_put_X11_isInRow
theorem dX9_put_0 : decode cX9_put 0 = .ok (.iload_n 1, 1) := by decide +kernel
theorem dX9_put_1 : decode cX9_put 1 = .ok (.invokestatic 18, 3) := by decide +kernel
theorem dX9_put_4 : decode cX9_put 4 = .ok (.ifCond .eq 17, 3) := by decide +kernel
theorem dX9_put_7 : decode cX9_put 7 = .ok (.aload_n 0, 1) := by decide +kernel
theorem dX9_put_8 : decode cX9_put 8 = .ok (.getfield 9, 3) := by decide +kernel
theorem dX9_put_11 : decode cX9_put 11 = .ok (.iload_n 1, 1) := by decide +kernel
theorem dX9_put_12 : decode cX9_put 12 = .ok (.iload_n 2, 1) := by decide +kernel
theorem dX9_put_13 : decode cX9_put 13 = .ok (.iastore, 1) := by decide +kernel
theorem dX9_put_14 : decode cX9_put 14 = .ok (.aload_n 0, 1) := by decide +kernel
theorem dX9_put_15 : decode cX9_put 15 = .ok (.getfield 15, 3) := by decide +kernel
theorem dX9_put_18 : decode cX9_put 18 = .ok (.iload_n 1, 1) := by decide +kernel
theorem dX9_put_19 : decode cX9_put 19 = .ok (.iload_n 3, 1) := by decide +kernel
theorem dX9_put_20 : decode cX9_put 20 = .ok (.iastore, 1) := by decide +kernel
theorem dX9_put_21 : decode cX9_put 21 = .ok (.return_, 1) := by decide +kernel
def fX9_put (m : dM) (p0 : Nat) (p1 : Int32) (p2 : Int32) (p3 : Int32) : Option dM := dg (dkg p0 10) ((fX11_isInRow m p1).bind (fun v2 => if v2 = 0 then some m else dg (dIx p1 (dL (p0 + 1))) (dlet (d1 m (p0 + 1) (Int32.toNatClampNeg (p1)) p2) (fun m3 => dg (dIx p1 (dL (p0 + 2))) (dlet (d1 m3 (p0 + 2) (Int32.toNatClampNeg (p1)) p3) (fun m4 => some m4))))))
set_option maxHeartbeats 4000000 in
set_option maxRecDepth 100000 in
theorem kX9_put (l : Launch) (g : dG) {m : dM} {p0 : Nat} {p1 : Int32} {p2 : Int32} {p3 : Int32} {m0 : dM} (h : fX9_put m p0 p1 p2 p3 = some m0) : dMet l g yX9_put wsX9_put (dRm 1 20) [.ref (dad g p0), .int p1, .int p2, .int p3] m (dQV g m0) := by
  refine dof (cc := cX9_put) (maxL := 4) (ret := none) _ (plainFor_of_name (by decide)) rfl (Nat.le_of_ble_eq_true rfl) ?_
  intro p e s mth below meth c S hr hlk hE H ls hP hS hl
  have S : CallFix p mth c cX9_put 4 s _ wsX9_put RX9 := S
  have hl : lv_has ls 4 [(0, .ref (dad g p0)), (1, .int p1), (2, .int p2), (3, .int p3)] := hl
  obtain ⟨locs, hlocs⟩ : ∃ z : List Loc, z = [] := ⟨_, rfl⟩
  rw [← hlocs] at hS ⊢
  have in9 : ∀ w ∈ wsX90, w ∈ wsX9_put := by decide +kernel
  unfold fX9_put at h
  obtain ⟨k0, h⟩ := d_g h
  have k0 := d_k k0
  refine lv_iload_n S.1 S.2.1 dX9_put_0 rfl (lv_at hl 1 rfl) ?_
  obtain ⟨v2, hc1, h⟩ := d_b h
  refine dri (va_runSN (As := [.int p1]) (rest := []) S (kX11_isInRow l g hc1) ⟨va_cnB 1 S.2.2.2.2 gX9_put_X11_isInRow_n18 rfl rfl rfl (dnq_RX9_18 hE) (S.2.2.2.2 (.initialized RX11) (List.mem_of_getElem? (i := 4) rfl)) ynX11_isInRow ⟨Nat.le_of_ble_eq_true rfl, Nat.le_of_ble_eq_true rfl⟩, S.2.2.2.2 (.static yX11_isInRow) (List.mem_of_getElem? (i := 3) rfl), trivial⟩ (dpS hE hP hS) rfl rfl hl.1 rfl (lv_room (Nat.le_of_ble_eq_true rfl)) dX9_put_1 ⟨Nat.le_of_ble_eq_true rfl, Nat.le_of_ble_eq_true rfl⟩) hS (fun H locs hP hS => ?_)
  refine lv_if_eq (tgt := 21) S.1 S.2.1 dX9_put_4 (by decide) (fun cq => ?_) (fun cq => ?_)
  · have h := d_t cq h
    obtain rfl := Option.some.inj h
    exact dtv S hr hlk hE hP hS dX9_put_21
  · have h := d_f cq h
    refine lv_aload_n S.1 S.2.1 dX9_put_7 rfl (lv_at hl 0 rfl) ?_
    refine dgf9_0 S in9 hE hP k0 (S.2.2.2.2 (.fieldLink RX9 9 "DrillField$Spots" "xs" "[I") (List.mem_of_getElem? (i := 1) rfl)) dX9_put_8 ?_
    refine lv_iload_n S.1 S.2.1 dX9_put_11 rfl (lv_at hl 1 rfl) ?_
    refine lv_iload_n S.1 S.2.1 dX9_put_12 rfl (lv_at hl 2 rfl) ?_
    obtain ⟨hi, h⟩ := d_g h
    refine d_iast S hE hP hS (dkr10_1 k0) hi dX9_put_13 (fun H locs hP hS => ?_)
    obtain ⟨m3, em3⟩ : ∃ z : dM, z = d1 m (p0 + 1) (Int32.toNatClampNeg (p1)) p2 := ⟨_, rfl⟩
    have h := d_let em3 h
    rw [← em3] at hP
    refine lv_aload_n S.1 S.2.1 dX9_put_14 rfl (lv_at hl 0 rfl) ?_
    refine dgf9_1 S in9 hE hP k0 (S.2.2.2.2 (.fieldLink RX9 15 "DrillField$Spots" "ys" "[I") (List.mem_of_getElem? (i := 2) rfl)) dX9_put_15 ?_
    refine lv_iload_n S.1 S.2.1 dX9_put_18 rfl (lv_at hl 1 rfl) ?_
    refine lv_iload_n S.1 S.2.1 dX9_put_19 rfl (lv_at hl 3 rfl) ?_
    obtain ⟨hi, h⟩ := d_g h
    refine d_iast S hE hP hS (dkr10_2 k0) hi dX9_put_20 (fun H locs hP hS => ?_)
    obtain ⟨m4, em4⟩ : ∃ z : dM, z = d1 m3 (p0 + 2) (Int32.toNatClampNeg (p1)) p3 := ⟨_, rfl⟩
    have h := d_let em4 h
    rw [← em4] at hP
    obtain rfl := Option.some.inj h
    exact dtv S hr hlk hE hP hS dX9_put_21
set_option maxRecDepth 20000 in
theorem ggX9_copy_X9_x : GoodIn wsX9_copy wsX9_x := goodIn_r _ [5, 6, 7, 8, 9, 19, 20] (by decide +kernel) (by decide +kernel)
set_option maxRecDepth 20000 in
theorem gX9_copy_X9_x : GoodIn wsX9_copy (wsV RX9 22 RX9 yX9_x wsX9_x) := goodIn_app (goodIn_of _ (by decide +kernel)) ggX9_copy_X9_x
set_option maxRecDepth 20000 in
theorem ggX9_copy_X9_y : GoodIn wsX9_copy wsX9_y := goodIn_r _ [13, 14, 7, 8, 9, 19, 20] (by decide +kernel) (by decide +kernel)
set_option maxRecDepth 20000 in
theorem gX9_copy_X9_y : GoodIn wsX9_copy (wsV RX9 26 RX9 yX9_y wsX9_y) := goodIn_app (goodIn_of _ (by decide +kernel)) ggX9_copy_X9_y
set_option maxRecDepth 20000 in
theorem ggX9_copy_X9_put : GoodIn wsX9_copy wsX9_put := goodIn_r _ [18, 6, 14, 7, 8, 9, 19, 20] (by decide +kernel) (by decide +kernel)
set_option maxRecDepth 20000 in
theorem gX9_copy_X9_put : GoodIn wsX9_copy (wsV RX9 29 RX9 yX9_put wsX9_put) := goodIn_app (goodIn_of _ (by decide +kernel)) ggX9_copy_X9_put
theorem dX9_copy_0 : decode cX9_copy 0 = .ok (.iconst 0, 1) := by decide +kernel
theorem dX9_copy_1 : decode cX9_copy 1 = .ok (.istore_n 2, 1) := by decide +kernel
theorem dX9_copy_2 : decode cX9_copy 2 = .ok (.iload_n 2, 1) := by decide +kernel
theorem dX9_copy_3 : decode cX9_copy 3 = .ok (.bipush 10, 2) := by decide +kernel
theorem dX9_copy_5 : decode cX9_copy 5 = .ok (.if_icmp .ge 24, 3) := by decide +kernel
theorem dX9_copy_8 : decode cX9_copy 8 = .ok (.aload_n 0, 1) := by decide +kernel
theorem dX9_copy_9 : decode cX9_copy 9 = .ok (.iload_n 2, 1) := by decide +kernel
theorem dX9_copy_10 : decode cX9_copy 10 = .ok (.aload_n 1, 1) := by decide +kernel
theorem dX9_copy_11 : decode cX9_copy 11 = .ok (.iload_n 2, 1) := by decide +kernel
theorem dX9_copy_12 : decode cX9_copy 12 = .ok (.invokevirtual 22, 3) := by decide +kernel
theorem dX9_copy_15 : decode cX9_copy 15 = .ok (.aload_n 1, 1) := by decide +kernel
theorem dX9_copy_16 : decode cX9_copy 16 = .ok (.iload_n 2, 1) := by decide +kernel
theorem dX9_copy_17 : decode cX9_copy 17 = .ok (.invokevirtual 26, 3) := by decide +kernel
theorem dX9_copy_20 : decode cX9_copy 20 = .ok (.invokevirtual 29, 3) := by decide +kernel
theorem dX9_copy_23 : decode cX9_copy 23 = .ok (.iinc 2 1, 3) := by decide +kernel
theorem dX9_copy_26 : decode cX9_copy 26 = .ok (.goto (-24), 3) := by decide +kernel
theorem dX9_copy_29 : decode cX9_copy 29 = .ok (.return_, 1) := by decide +kernel
def fX9_copy_l2 (p0 : Nat) (p1 : Nat) (v2 : Int32) (m3 : dM) : Option ((Int32 × dM) ⊕ dM) := if 10 ≤ v2 then some (.inr m3) else (fX9_x m3 p1 v2).bind (fun v12 => (fX9_y m3 p1 v2).bind (fun v14 => (fX9_put m3 p0 v2 v12 v14).bind (fun m16 => dlet (v2 + 1 : Int32) (fun v17 => some (.inl (v17, m16))))))
def fX9_copy (m : dM) (p0 : Nat) (p1 : Nat) : Option dM := dg (dkg p0 10) (dg (dkg p1 10) ((dlp (fun q => dP2 q (fun v2 m3 => fX9_copy_l2 p0 p1 v2 m3)) dFl (0, m)).bind (fun q => dP1 q (fun m18 => some m18))))
set_option maxHeartbeats 4000000 in
set_option maxRecDepth 100000 in
theorem kX9_copy (l : Launch) (g : dG) {m : dM} {p0 : Nat} {p1 : Nat} {m0 : dM} (h : fX9_copy m p0 p1 = some m0) : dMet l g yX9_copy wsX9_copy (dRm 2 43) [.ref (dad g p0), .ref (dad g p1)] m (dQV g m0) := by
  refine dof (cc := cX9_copy) (maxL := 3) (ret := none) _ (plainFor_of_name (by decide)) rfl (Nat.le_of_ble_eq_true rfl) ?_
  intro p e s mth below meth c S hr hlk hE H ls hP hS hl
  have S : CallFix p mth c cX9_copy 3 s _ wsX9_copy RX9 := S
  have hl : lv_has ls 3 [(0, .ref (dad g p0)), (1, .ref (dad g p1))] := hl
  obtain ⟨locs, hlocs⟩ : ∃ z : List Loc, z = [] := ⟨_, rfl⟩
  rw [← hlocs] at hS ⊢
  unfold fX9_copy at h
  obtain ⟨k0, h⟩ := d_g h
  have k0 := d_k k0
  obtain ⟨k1, h⟩ := d_g h
  have k1 := d_k k1
  refine lv_iconst (v := 0) S.1 S.2.1 dX9_copy_0 (by decide) ?_
  refine lv_istore_n (lv' := [(2, .int 0), (0, .ref (dad g p0)), (1, .ref (dad g p1))]) S.1 S.2.1 dX9_copy_1 rfl hl (by decide) rfl (fun ls hl => ?_)
  obtain ⟨qL1, hqL1, h⟩ := d_b h
  refine d_lp (Hd := fun q => match q with | (v2, m3) => ∀ (H : Heap) (locs : List Loc) (ls : Array Slot), va_P g.1 vwCl (dws g m3) H → va_S (dA g) s.heap H locs → lv_has ls 3 [(2, .int v2), (0, .ref (dad g p0)), (1, .ref (dad g p1))] → W p l e (headSpec wsX9_copy (dRm 2 43)).room s mth (([.ref (dad g p0), .ref (dad g p1)] : List Value).toArray) below meth c H locs 0 0 (MQ below (dQV g m0) (([.ref (dad g p0), .ref (dad g p1)] : List Value).toArray) s 0 0 (dA g)) (F0 mth 2 ls [])) (K := fun q => (fun (m18 : _) => ∀ (H : Heap) (locs : List Loc) (ls : Array Slot), va_P g.1 vwCl (dws g m18) H → va_S (dA g) s.heap H locs → lv_has ls 3 [] → W p l e (headSpec wsX9_copy (dRm 2 43)).room s mth (([.ref (dad g p0), .ref (dad g p1)] : List Value).toArray) below meth c H locs 0 0 (MQ below (dQV g m0) (([.ref (dad g p0), .ref (dad g p1)] : List Value).toArray) s 0 0 (dA g)) (F0 mth 29 ls [])) q) ?_ dFl _ qL1 hqL1 ?_ H locs ls hP hS (lv_sub hl [0, 1, 2] rfl)
  · intro q o h hCL1 hEL1
    obtain ⟨v2, m3⟩ := q
    have h : fX9_copy_l2 p0 p1 v2 m3 = some o := h
    intro H locs ls hP hS hl
    have hP : va_P g.1 vwCl (dws g m3) H := hP
    have hl : lv_has ls 3 [(2, .int v2), (0, .ref (dad g p0)), (1, .ref (dad g p1))] := hl
    unfold fX9_copy_l2 at h
    refine lv_iload_n S.1 S.2.1 dX9_copy_2 rfl (lv_at hl 0 rfl) ?_
    refine lv_bipush (v := 10) S.1 S.2.1 dX9_copy_3 (by decide) ?_
    refine lv_icmp_ge (tgt := 29) S.1 S.2.1 dX9_copy_5 (by decide) (fun cq => ?_) (fun cq => ?_)
    · have h := d_t cq h
      obtain rfl := Option.some.inj h
      exact hEL1 _ rfl H locs ls hP hS (lv_sub hl [] rfl)
    · have h := d_f cq h
      refine lv_aload_n S.1 S.2.1 dX9_copy_8 rfl (lv_at hl 1 rfl) ?_
      refine lv_iload_n S.1 S.2.1 dX9_copy_9 rfl (lv_at hl 0 rfl) ?_
      refine lv_aload_n S.1 S.2.1 dX9_copy_10 rfl (lv_at hl 2 rfl) ?_
      refine lv_iload_n S.1 S.2.1 dX9_copy_11 rfl (lv_at hl 0 rfl) ?_
      obtain ⟨v12, hc11, h⟩ := d_b h
      refine dri (va_runV (As := [.int v2]) (rest := [.int v2, .ref (dad g p0)]) S (kX9_x l g hc11) (cwV 1 S.2.2.2.2 gX9_copy_X9_x rfl rfl rfl ynX9_x ⟨Nat.le_of_ble_eq_true rfl, Nat.le_of_ble_eq_true rfl⟩) (dpV hE hP hS (ci := 9) rfl (dat10 k1)) rfl rfl hl.1 rfl (lv_room (Nat.le_of_ble_eq_true rfl)) dX9_copy_12 ⟨Nat.le_of_ble_eq_true rfl, Nat.le_of_ble_eq_true rfl⟩) hS (fun H locs hP hS => ?_)
      refine lv_aload_n S.1 S.2.1 dX9_copy_15 rfl (lv_at hl 2 rfl) ?_
      refine lv_iload_n S.1 S.2.1 dX9_copy_16 rfl (lv_at hl 0 rfl) ?_
      obtain ⟨v14, hc13, h⟩ := d_b h
      refine dri (va_runV (As := [.int v2]) (rest := [.int v12, .int v2, .ref (dad g p0)]) S (kX9_y l g hc13) (cwV 1 S.2.2.2.2 gX9_copy_X9_y rfl rfl rfl ynX9_y ⟨Nat.le_of_ble_eq_true rfl, Nat.le_of_ble_eq_true rfl⟩) (dpV hE hP hS (ci := 9) rfl (dat10 k1)) rfl rfl hl.1 rfl (lv_room (Nat.le_of_ble_eq_true rfl)) dX9_copy_17 ⟨Nat.le_of_ble_eq_true rfl, Nat.le_of_ble_eq_true rfl⟩) hS (fun H locs hP hS => ?_)
      obtain ⟨m16, hc15, h⟩ := d_b h
      refine drv (va_runV (As := [.int v2, .int v12, .int v14]) (rest := []) S (kX9_put l g hc15) (cwV 3 S.2.2.2.2 gX9_copy_X9_put rfl rfl rfl ynX9_put ⟨Nat.le_of_ble_eq_true rfl, Nat.le_of_ble_eq_true rfl⟩) (dpV hE hP hS (ci := 9) rfl (dat10 k0)) rfl rfl hl.1 rfl (lv_room (Nat.le_of_ble_eq_true rfl)) dX9_copy_20 ⟨Nat.le_of_ble_eq_true rfl, Nat.le_of_ble_eq_true rfl⟩) hS (fun H locs hP hS => ?_)
      obtain ⟨v17, ev17⟩ : ∃ z : Int32, z = v2 + 1 := ⟨_, rfl⟩
      have h := d_let ev17 h
      refine lv_iinc (v := v17) (lv' := [(2, .int v17), (0, .ref (dad g p0)), (1, .ref (dad g p1))]) S.1 S.2.1 dX9_copy_23 hl (k := 0) rfl (by rw [ev17]; rfl) (by decide) rfl (fun ls hl => ?_)
      refine lv_goto (tgt := 2) S.1 S.2.1 dX9_copy_26 (by decide) ?_
      obtain rfl := Option.some.inj h
      exact hCL1 _ rfl H locs ls hP hS (lv_sub hl [0, 1, 2] rfl)
  · obtain ⟨m18, rfl⟩ : ∃ z, z = qL1 := ⟨_, rfl⟩
    have h := d_p1 h
    intro H locs ls hP hS hl
    have hP : va_P g.1 vwCl (dws g m18) H := hP
    have hl : lv_has ls 3 [] := hl
    obtain rfl := Option.some.inj h
    exact dtv S hr hlk hE hP hS dX9_copy_29
set_option maxRecDepth 20000 in
theorem ggX9_isParted_X11_isInRow : GoodIn wsX9_isParted wsX11_isInRow := goodIn_r _ [5] (by decide +kernel) (by decide +kernel)
set_option maxRecDepth 20000 in
theorem gX9_isParted_X11_isInRow_n18 : GoodIn wsX9_isParted (wsX11_isInRow) := ggX9_isParted_X11_isInRow
theorem dX9_isParted_0 : decode cX9_isParted 0 = .ok (.iload_n 2, 1) := by decide +kernel
theorem dX9_isParted_1 : decode cX9_isParted 1 = .ok (.invokestatic 18, 3) := by decide +kernel
theorem dX9_isParted_4 : decode cX9_isParted 4 = .ok (.ifCond .eq 10, 3) := by decide +kernel
theorem dX9_isParted_7 : decode cX9_isParted 7 = .ok (.iload_n 3, 1) := by decide +kernel
theorem dX9_isParted_8 : decode cX9_isParted 8 = .ok (.invokestatic 18, 3) := by decide +kernel
theorem dX9_isParted_11 : decode cX9_isParted 11 = .ok (.ifCond .ne 5, 3) := by decide +kernel
theorem dX9_isParted_14 : decode cX9_isParted 14 = .ok (.iconst 0, 1) := by decide +kernel
theorem dX9_isParted_15 : decode cX9_isParted 15 = .ok (.ireturn, 1) := by decide +kernel
theorem dX9_isParted_16 : decode cX9_isParted 16 = .ok (.aload_n 0, 1) := by decide +kernel
theorem dX9_isParted_17 : decode cX9_isParted 17 = .ok (.getfield 9, 3) := by decide +kernel
theorem dX9_isParted_20 : decode cX9_isParted 20 = .ok (.iload_n 2, 1) := by decide +kernel
theorem dX9_isParted_21 : decode cX9_isParted 21 = .ok (.iaload, 1) := by decide +kernel
theorem dX9_isParted_22 : decode cX9_isParted 22 = .ok (.istore 4, 2) := by decide +kernel
theorem dX9_isParted_24 : decode cX9_isParted 24 = .ok (.aload_n 0, 1) := by decide +kernel
theorem dX9_isParted_25 : decode cX9_isParted 25 = .ok (.getfield 15, 3) := by decide +kernel
theorem dX9_isParted_28 : decode cX9_isParted 28 = .ok (.iload_n 2, 1) := by decide +kernel
theorem dX9_isParted_29 : decode cX9_isParted 29 = .ok (.iaload, 1) := by decide +kernel
theorem dX9_isParted_30 : decode cX9_isParted 30 = .ok (.istore 5, 2) := by decide +kernel
theorem dX9_isParted_32 : decode cX9_isParted 32 = .ok (.aload_n 1, 1) := by decide +kernel
theorem dX9_isParted_33 : decode cX9_isParted 33 = .ok (.getfield 9, 3) := by decide +kernel
theorem dX9_isParted_36 : decode cX9_isParted 36 = .ok (.iload_n 2, 1) := by decide +kernel
theorem dX9_isParted_37 : decode cX9_isParted 37 = .ok (.iaload, 1) := by decide +kernel
theorem dX9_isParted_38 : decode cX9_isParted 38 = .ok (.iload 4, 2) := by decide +kernel
theorem dX9_isParted_40 : decode cX9_isParted 40 = .ok (.isub, 1) := by decide +kernel
theorem dX9_isParted_41 : decode cX9_isParted 41 = .ok (.istore 6, 2) := by decide +kernel
theorem dX9_isParted_43 : decode cX9_isParted 43 = .ok (.aload_n 1, 1) := by decide +kernel
theorem dX9_isParted_44 : decode cX9_isParted 44 = .ok (.getfield 15, 3) := by decide +kernel
theorem dX9_isParted_47 : decode cX9_isParted 47 = .ok (.iload_n 2, 1) := by decide +kernel
theorem dX9_isParted_48 : decode cX9_isParted 48 = .ok (.iaload, 1) := by decide +kernel
theorem dX9_isParted_49 : decode cX9_isParted 49 = .ok (.iload 5, 2) := by decide +kernel
theorem dX9_isParted_51 : decode cX9_isParted 51 = .ok (.isub, 1) := by decide +kernel
theorem dX9_isParted_52 : decode cX9_isParted 52 = .ok (.istore 7, 2) := by decide +kernel
theorem dX9_isParted_54 : decode cX9_isParted 54 = .ok (.iload 6, 2) := by decide +kernel
theorem dX9_isParted_56 : decode cX9_isParted 56 = .ok (.aload_n 0, 1) := by decide +kernel
theorem dX9_isParted_57 : decode cX9_isParted 57 = .ok (.getfield 15, 3) := by decide +kernel
theorem dX9_isParted_60 : decode cX9_isParted 60 = .ok (.iload_n 3, 1) := by decide +kernel
theorem dX9_isParted_61 : decode cX9_isParted 61 = .ok (.iaload, 1) := by decide +kernel
theorem dX9_isParted_62 : decode cX9_isParted 62 = .ok (.iload 5, 2) := by decide +kernel
theorem dX9_isParted_64 : decode cX9_isParted 64 = .ok (.isub, 1) := by decide +kernel
theorem dX9_isParted_65 : decode cX9_isParted 65 = .ok (.imul, 1) := by decide +kernel
theorem dX9_isParted_66 : decode cX9_isParted 66 = .ok (.iload 7, 2) := by decide +kernel
theorem dX9_isParted_68 : decode cX9_isParted 68 = .ok (.aload_n 0, 1) := by decide +kernel
theorem dX9_isParted_69 : decode cX9_isParted 69 = .ok (.getfield 9, 3) := by decide +kernel
theorem dX9_isParted_72 : decode cX9_isParted 72 = .ok (.iload_n 3, 1) := by decide +kernel
theorem dX9_isParted_73 : decode cX9_isParted 73 = .ok (.iaload, 1) := by decide +kernel
theorem dX9_isParted_74 : decode cX9_isParted 74 = .ok (.iload 4, 2) := by decide +kernel
theorem dX9_isParted_76 : decode cX9_isParted 76 = .ok (.isub, 1) := by decide +kernel
theorem dX9_isParted_77 : decode cX9_isParted 77 = .ok (.imul, 1) := by decide +kernel
theorem dX9_isParted_78 : decode cX9_isParted 78 = .ok (.isub, 1) := by decide +kernel
theorem dX9_isParted_79 : decode cX9_isParted 79 = .ok (.istore 8, 2) := by decide +kernel
theorem dX9_isParted_81 : decode cX9_isParted 81 = .ok (.iload 6, 2) := by decide +kernel
theorem dX9_isParted_83 : decode cX9_isParted 83 = .ok (.aload_n 1, 1) := by decide +kernel
theorem dX9_isParted_84 : decode cX9_isParted 84 = .ok (.getfield 15, 3) := by decide +kernel
theorem dX9_isParted_87 : decode cX9_isParted 87 = .ok (.iload_n 3, 1) := by decide +kernel
theorem dX9_isParted_88 : decode cX9_isParted 88 = .ok (.iaload, 1) := by decide +kernel
theorem dX9_isParted_89 : decode cX9_isParted 89 = .ok (.iload 5, 2) := by decide +kernel
theorem dX9_isParted_91 : decode cX9_isParted 91 = .ok (.isub, 1) := by decide +kernel
theorem dX9_isParted_92 : decode cX9_isParted 92 = .ok (.imul, 1) := by decide +kernel
theorem dX9_isParted_93 : decode cX9_isParted 93 = .ok (.iload 7, 2) := by decide +kernel
theorem dX9_isParted_95 : decode cX9_isParted 95 = .ok (.aload_n 1, 1) := by decide +kernel
theorem dX9_isParted_96 : decode cX9_isParted 96 = .ok (.getfield 9, 3) := by decide +kernel
theorem dX9_isParted_99 : decode cX9_isParted 99 = .ok (.iload_n 3, 1) := by decide +kernel
theorem dX9_isParted_100 : decode cX9_isParted 100 = .ok (.iaload, 1) := by decide +kernel
theorem dX9_isParted_101 : decode cX9_isParted 101 = .ok (.iload 4, 2) := by decide +kernel
theorem dX9_isParted_103 : decode cX9_isParted 103 = .ok (.isub, 1) := by decide +kernel
theorem dX9_isParted_104 : decode cX9_isParted 104 = .ok (.imul, 1) := by decide +kernel
theorem dX9_isParted_105 : decode cX9_isParted 105 = .ok (.isub, 1) := by decide +kernel
theorem dX9_isParted_106 : decode cX9_isParted 106 = .ok (.istore 9, 2) := by decide +kernel
theorem dX9_isParted_108 : decode cX9_isParted 108 = .ok (.iload 8, 2) := by decide +kernel
theorem dX9_isParted_110 : decode cX9_isParted 110 = .ok (.ifCond .ge 8, 3) := by decide +kernel
theorem dX9_isParted_113 : decode cX9_isParted 113 = .ok (.iload 9, 2) := by decide +kernel
theorem dX9_isParted_115 : decode cX9_isParted 115 = .ok (.ifCond .gt 13, 3) := by decide +kernel
theorem dX9_isParted_118 : decode cX9_isParted 118 = .ok (.iload 8, 2) := by decide +kernel
theorem dX9_isParted_120 : decode cX9_isParted 120 = .ok (.ifCond .le 12, 3) := by decide +kernel
theorem dX9_isParted_123 : decode cX9_isParted 123 = .ok (.iload 9, 2) := by decide +kernel
theorem dX9_isParted_125 : decode cX9_isParted 125 = .ok (.ifCond .ge 7, 3) := by decide +kernel
theorem dX9_isParted_128 : decode cX9_isParted 128 = .ok (.iconst 1, 1) := by decide +kernel
theorem dX9_isParted_129 : decode cX9_isParted 129 = .ok (.goto 4, 3) := by decide +kernel
theorem dX9_isParted_132 : decode cX9_isParted 132 = .ok (.iconst 0, 1) := by decide +kernel
theorem dX9_isParted_133 : decode cX9_isParted 133 = .ok (.ireturn, 1) := by decide +kernel
def fX9_isParted (m : dM) (p0 : Nat) (p1 : Nat) (p2 : Int32) (p3 : Int32) : Option Int32 := dg (dkg p0 10) (dg (dkg p1 10) ((fX11_isInRow m p2).bind (fun v2 => if v2 = 0 then some 0 else (fX11_isInRow m p3).bind (fun v4 => if v4 = 0 then some 0 else dg (dIx p2 (dL (p0 + 1))) (dlet (m.1 (p0 + 1) (Int32.toNatClampNeg (p2)) : Int32) (fun v5 => dg (dIx p2 (dL (p0 + 2))) (dlet (m.1 (p0 + 2) (Int32.toNatClampNeg (p2)) : Int32) (fun v6 => dg (dIx p2 (dL (p1 + 1))) (dlet ((m.1 (p1 + 1) (Int32.toNatClampNeg (p2))) - v5 : Int32) (fun v7 => dg (dIx p2 (dL (p1 + 2))) (dlet ((m.1 (p1 + 2) (Int32.toNatClampNeg (p2))) - v6 : Int32) (fun v8 => dg (dIx p3 (dL (p0 + 2))) (dg (dIx p3 (dL (p0 + 1))) (dlet ((v7 * ((m.1 (p0 + 2) (Int32.toNatClampNeg (p3))) - v6)) - (v8 * ((m.1 (p0 + 1) (Int32.toNatClampNeg (p3))) - v5)) : Int32) (fun v9 => dg (dIx p3 (dL (p1 + 2))) (dg (dIx p3 (dL (p1 + 1))) (dlet ((v7 * ((m.1 (p1 + 2) (Int32.toNatClampNeg (p3))) - v6)) - (v8 * ((m.1 (p1 + 1) (Int32.toNatClampNeg (p3))) - v5)) : Int32) (fun v10 => if 0 ≤ v9 then if v9 ≤ 0 then some 0 else if 0 ≤ v10 then some 0 else some 1 else if 0 < v10 then some 1 else if v9 ≤ 0 then some 0 else if 0 ≤ v10 then some 0 else some 1))))))))))))))))))
set_option maxHeartbeats 4000000 in
set_option maxRecDepth 100000 in
theorem kX9_isParted (l : Launch) (g : dG) {m : dM} {p0 : Nat} {p1 : Nat} {p2 : Int32} {p3 : Int32} {r0 : Int32} (h : fX9_isParted m p0 p1 p2 p3 = some r0) : dMet l g yX9_isParted wsX9_isParted (dRm 1 20) [.ref (dad g p0), .ref (dad g p1), .int p2, .int p3] m (dQI g r0 m) := by
  refine dof (cc := cX9_isParted) (maxL := 10) (ret := (some .boolean)) _ (plainFor_of_name (by decide)) rfl (Nat.le_of_ble_eq_true rfl) ?_
  intro p e s mth below meth c S hr hlk hE H ls hP hS hl
  have S : CallFix p mth c cX9_isParted 10 s _ wsX9_isParted RX9 := S
  have hl : lv_has ls 10 [(0, .ref (dad g p0)), (1, .ref (dad g p1)), (2, .int p2), (3, .int p3)] := hl
  obtain ⟨locs, hlocs⟩ : ∃ z : List Loc, z = [] := ⟨_, rfl⟩
  rw [← hlocs] at hS ⊢
  have in9 : ∀ w ∈ wsX90, w ∈ wsX9_isParted := by decide +kernel
  unfold fX9_isParted at h
  obtain ⟨k0, h⟩ := d_g h
  have k0 := d_k k0
  obtain ⟨k1, h⟩ := d_g h
  have k1 := d_k k1
  refine lv_iload_n S.1 S.2.1 dX9_isParted_0 rfl (lv_at hl 2 rfl) ?_
  obtain ⟨v2, hc1, h⟩ := d_b h
  refine dri (va_runSN (As := [.int p2]) (rest := []) S (kX11_isInRow l g hc1) ⟨va_cnB 1 S.2.2.2.2 gX9_isParted_X11_isInRow_n18 rfl rfl rfl (dnq_RX9_18 hE) (S.2.2.2.2 (.initialized RX11) (List.mem_of_getElem? (i := 4) rfl)) ynX11_isInRow ⟨Nat.le_of_ble_eq_true rfl, Nat.le_of_ble_eq_true rfl⟩, S.2.2.2.2 (.static yX11_isInRow) (List.mem_of_getElem? (i := 3) rfl), trivial⟩ (dpS hE hP hS) rfl rfl hl.1 rfl (lv_room (Nat.le_of_ble_eq_true rfl)) dX9_isParted_1 ⟨Nat.le_of_ble_eq_true rfl, Nat.le_of_ble_eq_true rfl⟩) hS (fun H locs hP hS => ?_)
  refine lv_if_eq (tgt := 14) S.1 S.2.1 dX9_isParted_4 (by decide) (fun cq => ?_) (fun cq => ?_)
  · have h := d_t cq h
    refine lv_iconst (v := 0) S.1 S.2.1 dX9_isParted_14 (by decide) ?_
    obtain rfl := Option.some.inj h
    exact dti S hr hlk hE hP hS rfl dX9_isParted_15
  · have h := d_f cq h
    refine lv_iload_n S.1 S.2.1 dX9_isParted_7 rfl (lv_at hl 3 rfl) ?_
    obtain ⟨v4, hc3, h⟩ := d_b h
    refine dri (va_runSN (As := [.int p3]) (rest := []) S (kX11_isInRow l g hc3) ⟨va_cnB 1 S.2.2.2.2 gX9_isParted_X11_isInRow_n18 rfl rfl rfl (dnq_RX9_18 hE) (S.2.2.2.2 (.initialized RX11) (List.mem_of_getElem? (i := 4) rfl)) ynX11_isInRow ⟨Nat.le_of_ble_eq_true rfl, Nat.le_of_ble_eq_true rfl⟩, S.2.2.2.2 (.static yX11_isInRow) (List.mem_of_getElem? (i := 3) rfl), trivial⟩ (dpS hE hP hS) rfl rfl hl.1 rfl (lv_room (Nat.le_of_ble_eq_true rfl)) dX9_isParted_8 ⟨Nat.le_of_ble_eq_true rfl, Nat.le_of_ble_eq_true rfl⟩) hS (fun H locs hP hS => ?_)
    refine lv_if_ne (tgt := 16) S.1 S.2.1 dX9_isParted_11 (by decide) (fun cq => ?_) (fun cq => ?_)
    · have h := d_f cq h
      refine lv_aload_n S.1 S.2.1 dX9_isParted_16 rfl (lv_at hl 0 rfl) ?_
      refine dgf9_0 S in9 hE hP k0 (S.2.2.2.2 (.fieldLink RX9 9 "DrillField$Spots" "xs" "[I") (List.mem_of_getElem? (i := 1) rfl)) dX9_isParted_17 ?_
      refine lv_iload_n S.1 S.2.1 dX9_isParted_20 rfl (lv_at hl 2 rfl) ?_
      obtain ⟨hi, h⟩ := d_g h
      refine d_iald S hE hP (dkr10_1 k0) hi dX9_isParted_21 ?_
      refine lv_topi (fun v5 ev5 => ?_)
      have h := d_let ev5 h
      refine lv_istore (lv' := [(4, .int v5), (0, .ref (dad g p0)), (1, .ref (dad g p1)), (2, .int p2), (3, .int p3)]) S.1 S.2.1 dX9_isParted_22 hl (by decide) rfl (fun ls hl => ?_)
      refine lv_aload_n S.1 S.2.1 dX9_isParted_24 rfl (lv_at hl 1 rfl) ?_
      refine dgf9_1 S in9 hE hP k0 (S.2.2.2.2 (.fieldLink RX9 15 "DrillField$Spots" "ys" "[I") (List.mem_of_getElem? (i := 2) rfl)) dX9_isParted_25 ?_
      refine lv_iload_n S.1 S.2.1 dX9_isParted_28 rfl (lv_at hl 3 rfl) ?_
      obtain ⟨hi, h⟩ := d_g h
      refine d_iald S hE hP (dkr10_2 k0) hi dX9_isParted_29 ?_
      refine lv_topi (fun v6 ev6 => ?_)
      have h := d_let ev6 h
      refine lv_istore (lv' := [(5, .int v6), (4, .int v5), (0, .ref (dad g p0)), (1, .ref (dad g p1)), (2, .int p2), (3, .int p3)]) S.1 S.2.1 dX9_isParted_30 hl (by decide) rfl (fun ls hl => ?_)
      refine lv_aload_n S.1 S.2.1 dX9_isParted_32 rfl (lv_at hl 3 rfl) ?_
      refine dgf9_0 S in9 hE hP k1 (S.2.2.2.2 (.fieldLink RX9 9 "DrillField$Spots" "xs" "[I") (List.mem_of_getElem? (i := 1) rfl)) dX9_isParted_33 ?_
      refine lv_iload_n S.1 S.2.1 dX9_isParted_36 rfl (lv_at hl 4 rfl) ?_
      obtain ⟨hi, h⟩ := d_g h
      refine d_iald S hE hP (dkr10_1 k1) hi dX9_isParted_37 ?_
      refine lv_iload S.1 S.2.1 dX9_isParted_38 (lv_at hl 1 rfl) ?_
      refine lv_isub S.1 S.2.1 dX9_isParted_40 ?_
      refine lv_topi (fun v7 ev7 => ?_)
      have h := d_let ev7 h
      refine lv_istore (lv' := [(6, .int v7), (5, .int v6), (4, .int v5), (0, .ref (dad g p0)), (1, .ref (dad g p1)), (2, .int p2), (3, .int p3)]) S.1 S.2.1 dX9_isParted_41 hl (by decide) rfl (fun ls hl => ?_)
      refine lv_aload_n S.1 S.2.1 dX9_isParted_43 rfl (lv_at hl 4 rfl) ?_
      refine dgf9_1 S in9 hE hP k1 (S.2.2.2.2 (.fieldLink RX9 15 "DrillField$Spots" "ys" "[I") (List.mem_of_getElem? (i := 2) rfl)) dX9_isParted_44 ?_
      refine lv_iload_n S.1 S.2.1 dX9_isParted_47 rfl (lv_at hl 5 rfl) ?_
      obtain ⟨hi, h⟩ := d_g h
      refine d_iald S hE hP (dkr10_2 k1) hi dX9_isParted_48 ?_
      refine lv_iload S.1 S.2.1 dX9_isParted_49 (lv_at hl 1 rfl) ?_
      refine lv_isub S.1 S.2.1 dX9_isParted_51 ?_
      refine lv_topi (fun v8 ev8 => ?_)
      have h := d_let ev8 h
      refine lv_istore (lv' := [(7, .int v8), (6, .int v7), (5, .int v6), (4, .int v5), (0, .ref (dad g p0)), (1, .ref (dad g p1)), (2, .int p2), (3, .int p3)]) S.1 S.2.1 dX9_isParted_52 hl (by decide) rfl (fun ls hl => ?_)
      refine lv_iload S.1 S.2.1 dX9_isParted_54 (lv_at hl 1 rfl) ?_
      refine lv_aload_n S.1 S.2.1 dX9_isParted_56 rfl (lv_at hl 4 rfl) ?_
      refine dgf9_1 S in9 hE hP k0 (S.2.2.2.2 (.fieldLink RX9 15 "DrillField$Spots" "ys" "[I") (List.mem_of_getElem? (i := 2) rfl)) dX9_isParted_57 ?_
      refine lv_iload_n S.1 S.2.1 dX9_isParted_60 rfl (lv_at hl 7 rfl) ?_
      obtain ⟨hi, h⟩ := d_g h
      refine d_iald S hE hP (dkr10_2 k0) hi dX9_isParted_61 ?_
      refine lv_iload S.1 S.2.1 dX9_isParted_62 (lv_at hl 2 rfl) ?_
      refine lv_isub S.1 S.2.1 dX9_isParted_64 ?_
      refine lv_imul S.1 S.2.1 dX9_isParted_65 ?_
      refine lv_iload S.1 S.2.1 dX9_isParted_66 (lv_at hl 0 rfl) ?_
      refine lv_aload_n S.1 S.2.1 dX9_isParted_68 rfl (lv_at hl 4 rfl) ?_
      refine dgf9_0 S in9 hE hP k0 (S.2.2.2.2 (.fieldLink RX9 9 "DrillField$Spots" "xs" "[I") (List.mem_of_getElem? (i := 1) rfl)) dX9_isParted_69 ?_
      refine lv_iload_n S.1 S.2.1 dX9_isParted_72 rfl (lv_at hl 7 rfl) ?_
      obtain ⟨hi, h⟩ := d_g h
      refine d_iald S hE hP (dkr10_1 k0) hi dX9_isParted_73 ?_
      refine lv_iload S.1 S.2.1 dX9_isParted_74 (lv_at hl 3 rfl) ?_
      refine lv_isub S.1 S.2.1 dX9_isParted_76 ?_
      refine lv_imul S.1 S.2.1 dX9_isParted_77 ?_
      refine lv_isub S.1 S.2.1 dX9_isParted_78 ?_
      refine lv_topi (fun v9 ev9 => ?_)
      have h := d_let ev9 h
      refine lv_istore (lv' := [(8, .int v9), (7, .int v8), (6, .int v7), (5, .int v6), (4, .int v5), (0, .ref (dad g p0)), (1, .ref (dad g p1)), (2, .int p2), (3, .int p3)]) S.1 S.2.1 dX9_isParted_79 hl (by decide) rfl (fun ls hl => ?_)
      refine lv_iload S.1 S.2.1 dX9_isParted_81 (lv_at hl 2 rfl) ?_
      refine lv_aload_n S.1 S.2.1 dX9_isParted_83 rfl (lv_at hl 6 rfl) ?_
      refine dgf9_1 S in9 hE hP k1 (S.2.2.2.2 (.fieldLink RX9 15 "DrillField$Spots" "ys" "[I") (List.mem_of_getElem? (i := 2) rfl)) dX9_isParted_84 ?_
      refine lv_iload_n S.1 S.2.1 dX9_isParted_87 rfl (lv_at hl 8 rfl) ?_
      obtain ⟨hi, h⟩ := d_g h
      refine d_iald S hE hP (dkr10_2 k1) hi dX9_isParted_88 ?_
      refine lv_iload S.1 S.2.1 dX9_isParted_89 (lv_at hl 3 rfl) ?_
      refine lv_isub S.1 S.2.1 dX9_isParted_91 ?_
      refine lv_imul S.1 S.2.1 dX9_isParted_92 ?_
      refine lv_iload S.1 S.2.1 dX9_isParted_93 (lv_at hl 1 rfl) ?_
      refine lv_aload_n S.1 S.2.1 dX9_isParted_95 rfl (lv_at hl 6 rfl) ?_
      refine dgf9_0 S in9 hE hP k1 (S.2.2.2.2 (.fieldLink RX9 9 "DrillField$Spots" "xs" "[I") (List.mem_of_getElem? (i := 1) rfl)) dX9_isParted_96 ?_
      refine lv_iload_n S.1 S.2.1 dX9_isParted_99 rfl (lv_at hl 8 rfl) ?_
      obtain ⟨hi, h⟩ := d_g h
      refine d_iald S hE hP (dkr10_1 k1) hi dX9_isParted_100 ?_
      refine lv_iload S.1 S.2.1 dX9_isParted_101 (lv_at hl 4 rfl) ?_
      refine lv_isub S.1 S.2.1 dX9_isParted_103 ?_
      refine lv_imul S.1 S.2.1 dX9_isParted_104 ?_
      refine lv_isub S.1 S.2.1 dX9_isParted_105 ?_
      refine lv_topi (fun v10 ev10 => ?_)
      have h := d_let ev10 h
      refine lv_istore (lv' := [(9, .int v10), (8, .int v9), (7, .int v8), (6, .int v7), (5, .int v6), (4, .int v5), (0, .ref (dad g p0)), (1, .ref (dad g p1)), (2, .int p2), (3, .int p3)]) S.1 S.2.1 dX9_isParted_106 hl (by decide) rfl (fun ls hl => ?_)
      refine lv_iload S.1 S.2.1 dX9_isParted_108 (lv_at hl 1 rfl) ?_
      refine lv_if_ge (tgt := 118) S.1 S.2.1 dX9_isParted_110 (by decide) (fun cq => ?_) (fun cq => ?_)
      · have h := d_t cq h
        refine lv_iload S.1 S.2.1 dX9_isParted_118 (lv_at hl 1 rfl) ?_
        refine lv_if_le (tgt := 132) S.1 S.2.1 dX9_isParted_120 (by decide) (fun cq => ?_) (fun cq => ?_)
        · have h := d_t cq h
          refine lv_iconst (v := 0) S.1 S.2.1 dX9_isParted_132 (by decide) ?_
          obtain rfl := Option.some.inj h
          exact dti S hr hlk hE hP hS rfl dX9_isParted_133
        · have h := d_f cq h
          refine lv_iload S.1 S.2.1 dX9_isParted_123 (lv_at hl 0 rfl) ?_
          refine lv_if_ge (tgt := 132) S.1 S.2.1 dX9_isParted_125 (by decide) (fun cq => ?_) (fun cq => ?_)
          · have h := d_t cq h
            refine lv_iconst (v := 0) S.1 S.2.1 dX9_isParted_132 (by decide) ?_
            obtain rfl := Option.some.inj h
            exact dti S hr hlk hE hP hS rfl dX9_isParted_133
          · have h := d_f cq h
            refine lv_iconst (v := 1) S.1 S.2.1 dX9_isParted_128 (by decide) ?_
            refine lv_goto (tgt := 133) S.1 S.2.1 dX9_isParted_129 (by decide) ?_
            obtain rfl := Option.some.inj h
            exact dti S hr hlk hE hP hS rfl dX9_isParted_133
      · have h := d_f cq h
        refine lv_iload S.1 S.2.1 dX9_isParted_113 (lv_at hl 0 rfl) ?_
        refine lv_if_gt (tgt := 128) S.1 S.2.1 dX9_isParted_115 (by decide) (fun cq => ?_) (fun cq => ?_)
        · have h := d_t cq h
          refine lv_iconst (v := 1) S.1 S.2.1 dX9_isParted_128 (by decide) ?_
          refine lv_goto (tgt := 133) S.1 S.2.1 dX9_isParted_129 (by decide) ?_
          obtain rfl := Option.some.inj h
          exact dti S hr hlk hE hP hS rfl dX9_isParted_133
        · have h := d_f cq h
          refine lv_iload S.1 S.2.1 dX9_isParted_118 (lv_at hl 1 rfl) ?_
          refine lv_if_le (tgt := 132) S.1 S.2.1 dX9_isParted_120 (by decide) (fun cq => ?_) (fun cq => ?_)
          · have h := d_t cq h
            refine lv_iconst (v := 0) S.1 S.2.1 dX9_isParted_132 (by decide) ?_
            obtain rfl := Option.some.inj h
            exact dti S hr hlk hE hP hS rfl dX9_isParted_133
          · have h := d_f cq h
            refine lv_iload S.1 S.2.1 dX9_isParted_123 (lv_at hl 0 rfl) ?_
            refine lv_if_ge (tgt := 132) S.1 S.2.1 dX9_isParted_125 (by decide) (fun cq => ?_) (fun cq => ?_)
            · have h := d_t cq h
              refine lv_iconst (v := 0) S.1 S.2.1 dX9_isParted_132 (by decide) ?_
              obtain rfl := Option.some.inj h
              exact dti S hr hlk hE hP hS rfl dX9_isParted_133
            · have h := d_f cq h
              refine lv_iconst (v := 1) S.1 S.2.1 dX9_isParted_128 (by decide) ?_
              refine lv_goto (tgt := 133) S.1 S.2.1 dX9_isParted_129 (by decide) ?_
              obtain rfl := Option.some.inj h
              exact dti S hr hlk hE hP hS rfl dX9_isParted_133
    · have h := d_t cq h
      refine lv_iconst (v := 0) S.1 S.2.1 dX9_isParted_14 (by decide) ?_
      obtain rfl := Option.some.inj h
      exact dti S hr hlk hE hP hS rfl dX9_isParted_15
set_option maxRecDepth 20000 in
theorem ggX9_isCrossing_X9_isParted : GoodIn wsX9_isCrossing wsX9_isParted := goodIn_r _ [5, 6, 7, 8, 9, 10, 11, 12] (by decide +kernel) (by decide +kernel)
set_option maxRecDepth 20000 in
theorem gX9_isCrossing_X9_isParted : GoodIn wsX9_isCrossing (wsV RX9 37 RX9 yX9_isParted wsX9_isParted) := goodIn_app (goodIn_of _ (by decide +kernel)) ggX9_isCrossing_X9_isParted
theorem dX9_isCrossing_0 : decode cX9_isCrossing 0 = .ok (.aload_n 0, 1) := by decide +kernel
theorem dX9_isCrossing_1 : decode cX9_isCrossing 1 = .ok (.aload_n 1, 1) := by decide +kernel
theorem dX9_isCrossing_2 : decode cX9_isCrossing 2 = .ok (.iload_n 2, 1) := by decide +kernel
theorem dX9_isCrossing_3 : decode cX9_isCrossing 3 = .ok (.iload_n 3, 1) := by decide +kernel
theorem dX9_isCrossing_4 : decode cX9_isCrossing 4 = .ok (.invokevirtual 37, 3) := by decide +kernel
theorem dX9_isCrossing_7 : decode cX9_isCrossing 7 = .ok (.ifCond .eq 17, 3) := by decide +kernel
theorem dX9_isCrossing_10 : decode cX9_isCrossing 10 = .ok (.aload_n 0, 1) := by decide +kernel
theorem dX9_isCrossing_11 : decode cX9_isCrossing 11 = .ok (.aload_n 1, 1) := by decide +kernel
theorem dX9_isCrossing_12 : decode cX9_isCrossing 12 = .ok (.iload_n 3, 1) := by decide +kernel
theorem dX9_isCrossing_13 : decode cX9_isCrossing 13 = .ok (.iload_n 2, 1) := by decide +kernel
theorem dX9_isCrossing_14 : decode cX9_isCrossing 14 = .ok (.invokevirtual 37, 3) := by decide +kernel
theorem dX9_isCrossing_17 : decode cX9_isCrossing 17 = .ok (.ifCond .eq 7, 3) := by decide +kernel
theorem dX9_isCrossing_20 : decode cX9_isCrossing 20 = .ok (.iconst 1, 1) := by decide +kernel
theorem dX9_isCrossing_21 : decode cX9_isCrossing 21 = .ok (.goto 4, 3) := by decide +kernel
theorem dX9_isCrossing_24 : decode cX9_isCrossing 24 = .ok (.iconst 0, 1) := by decide +kernel
theorem dX9_isCrossing_25 : decode cX9_isCrossing 25 = .ok (.ireturn, 1) := by decide +kernel
def fX9_isCrossing (m : dM) (p0 : Nat) (p1 : Nat) (p2 : Int32) (p3 : Int32) : Option Int32 := dg (dkg p0 10) (dg (dkg p1 10) ((fX9_isParted m p0 p1 p2 p3).bind (fun v2 => if v2 = 0 then some 0 else (fX9_isParted m p0 p1 p3 p2).bind (fun v4 => if v4 = 0 then some 0 else some 1))))
set_option maxHeartbeats 4000000 in
set_option maxRecDepth 100000 in
theorem kX9_isCrossing (l : Launch) (g : dG) {m : dM} {p0 : Nat} {p1 : Nat} {p2 : Int32} {p3 : Int32} {r0 : Int32} (h : fX9_isCrossing m p0 p1 p2 p3 = some r0) : dMet l g yX9_isCrossing wsX9_isCrossing (dRm 2 49) [.ref (dad g p0), .ref (dad g p1), .int p2, .int p3] m (dQI g r0 m) := by
  refine dof (cc := cX9_isCrossing) (maxL := 4) (ret := (some .boolean)) _ (plainFor_of_name (by decide)) rfl (Nat.le_of_ble_eq_true rfl) ?_
  intro p e s mth below meth c S hr hlk hE H ls hP hS hl
  have S : CallFix p mth c cX9_isCrossing 4 s _ wsX9_isCrossing RX9 := S
  have hl : lv_has ls 4 [(0, .ref (dad g p0)), (1, .ref (dad g p1)), (2, .int p2), (3, .int p3)] := hl
  obtain ⟨locs, hlocs⟩ : ∃ z : List Loc, z = [] := ⟨_, rfl⟩
  rw [← hlocs] at hS ⊢
  unfold fX9_isCrossing at h
  obtain ⟨k0, h⟩ := d_g h
  have k0 := d_k k0
  obtain ⟨k1, h⟩ := d_g h
  have k1 := d_k k1
  refine lv_aload_n S.1 S.2.1 dX9_isCrossing_0 rfl (lv_at hl 0 rfl) ?_
  refine lv_aload_n S.1 S.2.1 dX9_isCrossing_1 rfl (lv_at hl 1 rfl) ?_
  refine lv_iload_n S.1 S.2.1 dX9_isCrossing_2 rfl (lv_at hl 2 rfl) ?_
  refine lv_iload_n S.1 S.2.1 dX9_isCrossing_3 rfl (lv_at hl 3 rfl) ?_
  obtain ⟨v2, hc1, h⟩ := d_b h
  refine dri (va_runV (As := [.ref (dad g p1), .int p2, .int p3]) (rest := []) S (kX9_isParted l g hc1) (cwV 3 S.2.2.2.2 gX9_isCrossing_X9_isParted rfl rfl rfl ynX9_isParted ⟨Nat.le_of_ble_eq_true rfl, Nat.le_of_ble_eq_true rfl⟩) (dpV hE hP hS (ci := 9) rfl (dat10 k0)) rfl rfl hl.1 rfl (lv_room (Nat.le_of_ble_eq_true rfl)) dX9_isCrossing_4 ⟨Nat.le_of_ble_eq_true rfl, Nat.le_of_ble_eq_true rfl⟩) hS (fun H locs hP hS => ?_)
  refine lv_if_eq (tgt := 24) S.1 S.2.1 dX9_isCrossing_7 (by decide) (fun cq => ?_) (fun cq => ?_)
  · have h := d_t cq h
    refine lv_iconst (v := 0) S.1 S.2.1 dX9_isCrossing_24 (by decide) ?_
    obtain rfl := Option.some.inj h
    exact dti S hr hlk hE hP hS rfl dX9_isCrossing_25
  · have h := d_f cq h
    refine lv_aload_n S.1 S.2.1 dX9_isCrossing_10 rfl (lv_at hl 0 rfl) ?_
    refine lv_aload_n S.1 S.2.1 dX9_isCrossing_11 rfl (lv_at hl 1 rfl) ?_
    refine lv_iload_n S.1 S.2.1 dX9_isCrossing_12 rfl (lv_at hl 3 rfl) ?_
    refine lv_iload_n S.1 S.2.1 dX9_isCrossing_13 rfl (lv_at hl 2 rfl) ?_
    obtain ⟨v4, hc3, h⟩ := d_b h
    refine dri (va_runV (As := [.ref (dad g p1), .int p3, .int p2]) (rest := []) S (kX9_isParted l g hc3) (cwV 3 S.2.2.2.2 gX9_isCrossing_X9_isParted rfl rfl rfl ynX9_isParted ⟨Nat.le_of_ble_eq_true rfl, Nat.le_of_ble_eq_true rfl⟩) (dpV hE hP hS (ci := 9) rfl (dat10 k0)) rfl rfl hl.1 rfl (lv_room (Nat.le_of_ble_eq_true rfl)) dX9_isCrossing_14 ⟨Nat.le_of_ble_eq_true rfl, Nat.le_of_ble_eq_true rfl⟩) hS (fun H locs hP hS => ?_)
    refine lv_if_eq (tgt := 24) S.1 S.2.1 dX9_isCrossing_17 (by decide) (fun cq => ?_) (fun cq => ?_)
    · have h := d_t cq h
      refine lv_iconst (v := 0) S.1 S.2.1 dX9_isCrossing_24 (by decide) ?_
      obtain rfl := Option.some.inj h
      exact dti S hr hlk hE hP hS rfl dX9_isCrossing_25
    · have h := d_f cq h
      refine lv_iconst (v := 1) S.1 S.2.1 dX9_isCrossing_20 (by decide) ?_
      refine lv_goto (tgt := 25) S.1 S.2.1 dX9_isCrossing_21 (by decide) ?_
      obtain rfl := Option.some.inj h
      exact dti S hr hlk hE hP hS rfl dX9_isCrossing_25
