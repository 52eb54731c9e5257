theorem dX12_adds_0 : decode cX12_adds 0 = .ok (.aload_n 0, 1) := by decide +kernel
theorem dX12_adds_1 : decode cX12_adds 1 = .ok (.iload_n 1, 1) := by decide +kernel
theorem dX12_adds_2 : decode cX12_adds 2 = .ok (.ifCond .eq 7, 3) := by decide +kernel
theorem dX12_adds_5 : decode cX12_adds 5 = .ok (.iload_n 2, 1) := by decide +kernel
theorem dX12_adds_6 : decode cX12_adds 6 = .ok (.ifCond .ne 7, 3) := by decide +kernel
theorem dX12_adds_9 : decode cX12_adds 9 = .ok (.iconst 1, 1) := by decide +kernel
theorem dX12_adds_10 : decode cX12_adds 10 = .ok (.goto 17, 3) := by decide +kernel
theorem dX12_adds_13 : decode cX12_adds 13 = .ok (.aload_n 0, 1) := by decide +kernel
theorem dX12_adds_14 : decode cX12_adds 14 = .ok (.getfield 86, 3) := by decide +kernel
theorem dX12_adds_17 : decode cX12_adds 17 = .ok (.bipush 12, 2) := by decide +kernel
theorem dX12_adds_19 : decode cX12_adds 19 = .ok (.if_icmp .ne 7, 3) := by decide +kernel
theorem dX12_adds_22 : decode cX12_adds 22 = .ok (.iconst 2, 1) := by decide +kernel
theorem dX12_adds_23 : decode cX12_adds 23 = .ok (.goto 4, 3) := by decide +kernel
theorem dX12_adds_26 : decode cX12_adds 26 = .ok (.iconst 0, 1) := by decide +kernel
theorem dX12_adds_27 : decode cX12_adds 27 = .ok (.putfield 76, 3) := by decide +kernel
theorem dX12_adds_30 : decode cX12_adds 30 = .ok (.aload_n 0, 1) := by decide +kernel
theorem dX12_adds_31 : decode cX12_adds 31 = .ok (.getfield 76, 3) := by decide +kernel
theorem dX12_adds_34 : decode cX12_adds 34 = .ok (.ifCond .le 5, 3) := by decide +kernel
theorem dX12_adds_37 : decode cX12_adds 37 = .ok (.iconst 0, 1) := by decide +kernel
theorem dX12_adds_38 : decode cX12_adds 38 = .ok (.ireturn, 1) := by decide +kernel
theorem dX12_adds_39 : decode cX12_adds 39 = .ok (.aload_n 0, 1) := by decide +kernel
theorem dX12_adds_40 : decode cX12_adds 40 = .ok (.dup, 1) := by decide +kernel
theorem dX12_adds_41 : decode cX12_adds 41 = .ok (.getfield 86, 3) := by decide +kernel
theorem dX12_adds_44 : decode cX12_adds 44 = .ok (.iconst 1, 1) := by decide +kernel
theorem dX12_adds_45 : decode cX12_adds 45 = .ok (.iadd, 1) := by decide +kernel
theorem dX12_adds_46 : decode cX12_adds 46 = .ok (.putfield 86, 3) := by decide +kernel
theorem dX12_adds_49 : decode cX12_adds 49 = .ok (.aload_n 0, 1) := by decide +kernel
theorem dX12_adds_50 : decode cX12_adds 50 = .ok (.getfield 86, 3) := by decide +kernel
theorem dX12_adds_53 : decode cX12_adds 53 = .ok (.iconst 1, 1) := by decide +kernel
theorem dX12_adds_54 : decode cX12_adds 54 = .ok (.isub, 1) := by decide +kernel
theorem dX12_adds_55 : decode cX12_adds 55 = .ok (.ireturn, 1) := by decide +kernel
def fX12_adds (m : dM) (p0 : Nat) (p1 : Int32) (p2 : Int32) : Option (Int32 × dM) := dg (dkg p0 13) (if p1 = 0 then dlet (d1 m p0 25 1) (fun m1 => some (0, m1)) else if p2 = 0 then dlet (d1 m p0 25 1) (fun m5 => some (0, m5)) else if (m.1 p0 5) = 12 then dlet (d1 m p0 25 2) (fun m4 => some (0, m4)) else dlet (d1 m p0 25 0) (fun m2 => dlet (d1 m2 p0 5 ((m2.1 p0 5) + 1)) (fun m3 => some ((m3.1 p0 5) - 1, m3))))
set_option maxHeartbeats 4000000 in
set_option maxRecDepth 100000 in
theorem kX12_adds (l : Launch) (g : dG) {m : dM} {p0 : Nat} {p1 : Int32} {p2 : Int32} {r0 : Int32} {m0 : dM} (h : fX12_adds m p0 p1 p2 = some (r0, m0)) : dMet l g yX12_adds wsX12_adds (dRm 0 0) [.ref (dad g p0), .int p1, .int p2] m (dQI g r0 m0) := by
  refine dof (cc := cX12_adds) (maxL := 3) (ret := (some .int)) _ (plainFor_of_name (by decide)) rfl (Nat.le_of_ble_eq_true rfl) ?_
  intro p e s mth below meth c S hr hlk hE H ls hP hS hl
  have S : CallFix p mth c cX12_adds 3 s _ wsX12_adds RX12 := S
  have hl : lv_has ls 3 [(0, .ref (dad g p0)), (1, .int p1), (2, .int p2)] := hl
  obtain ⟨locs, hlocs⟩ : ∃ z : List Loc, z = [] := ⟨_, rfl⟩
  rw [← hlocs] at hS ⊢
  have in12 : ∀ w ∈ wsX120, w ∈ wsX12_adds := by decide +kernel
  unfold fX12_adds at h
  obtain ⟨k0, h⟩ := d_g h
  have k0 := d_k k0
  refine lv_aload_n S.1 S.2.1 dX12_adds_0 rfl (lv_at hl 0 rfl) ?_
  refine lv_iload_n S.1 S.2.1 dX12_adds_1 rfl (lv_at hl 1 rfl) ?_
  refine lv_if_eq (tgt := 9) S.1 S.2.1 dX12_adds_2 (by decide) (fun cq => ?_) (fun cq => ?_)
  · have h := d_t cq h
    refine lv_iconst (v := 1) S.1 S.2.1 dX12_adds_9 (by decide) ?_
    refine lv_goto (tgt := 27) S.1 S.2.1 dX12_adds_10 (by decide) ?_
    refine dpf12_25 S in12 hE hP hS k0 (S.2.2.2.2 (.fieldLink RX12 76 "DrillFieldModel" "thrown" "I") (List.mem_of_getElem? (i := 2) rfl)) dX12_adds_27 (fun H locs hP hS => ?_)
    obtain ⟨m1, em1⟩ : ∃ z : dM, z = d1 m p0 25 1 := ⟨_, rfl⟩
    have h := d_let em1 h
    rw [← em1] at hP
    refine lv_aload_n S.1 S.2.1 dX12_adds_30 rfl (lv_at hl 0 rfl) ?_
    refine dgf12_25 S in12 hE hP k0 (S.2.2.2.2 (.fieldLink RX12 76 "DrillFieldModel" "thrown" "I") (List.mem_of_getElem? (i := 2) rfl)) dX12_adds_31 ?_
    refine d_top (v := 1) (by rw [em1]; exact d1_get) ?_
    refine lv_if_le (tgt := 39) S.1 S.2.1 dX12_adds_34 (by decide) (fun cq => ?_) (fun cq => ?_)
    · exact absurd cq (by decide)
    · refine lv_iconst (v := 0) S.1 S.2.1 dX12_adds_37 (by decide) ?_
      obtain ⟨rfl, rfl⟩ := Prod.mk.inj (Option.some.inj h)
      exact dti S hr hlk hE hP hS rfl dX12_adds_38
  · have h := d_f cq h
    refine lv_iload_n S.1 S.2.1 dX12_adds_5 rfl (lv_at hl 2 rfl) ?_
    refine lv_if_ne (tgt := 13) S.1 S.2.1 dX12_adds_6 (by decide) (fun cq => ?_) (fun cq => ?_)
    · have h := d_f cq h
      refine lv_aload_n S.1 S.2.1 dX12_adds_13 rfl (lv_at hl 0 rfl) ?_
      refine dgf12_5 S in12 hE hP k0 (S.2.2.2.2 (.fieldLink RX12 86 "DrillFieldModel" "sets" "I") (List.mem_of_getElem? (i := 1) rfl)) dX12_adds_14 ?_
      refine lv_bipush (v := 12) S.1 S.2.1 dX12_adds_17 (by decide) ?_
      refine lv_icmp_ne (tgt := 26) S.1 S.2.1 dX12_adds_19 (by decide) (fun cq => ?_) (fun cq => ?_)
      · have h := d_f cq h
        refine lv_iconst (v := 0) S.1 S.2.1 dX12_adds_26 (by decide) ?_
        refine dpf12_25 S in12 hE hP hS k0 (S.2.2.2.2 (.fieldLink RX12 76 "DrillFieldModel" "thrown" "I") (List.mem_of_getElem? (i := 2) rfl)) dX12_adds_27 (fun H locs hP hS => ?_)
        obtain ⟨m2, em2⟩ : ∃ z : dM, z = d1 m p0 25 0 := ⟨_, rfl⟩
        have h := d_let em2 h
        rw [← em2] at hP
        refine lv_aload_n S.1 S.2.1 dX12_adds_30 rfl (lv_at hl 0 rfl) ?_
        refine dgf12_25 S in12 hE hP k0 (S.2.2.2.2 (.fieldLink RX12 76 "DrillFieldModel" "thrown" "I") (List.mem_of_getElem? (i := 2) rfl)) dX12_adds_31 ?_
        refine d_top (v := 0) (by rw [em2]; exact d1_get) ?_
        refine lv_if_le (tgt := 39) S.1 S.2.1 dX12_adds_34 (by decide) (fun cq => ?_) (fun cq => ?_)
        · refine lv_aload_n S.1 S.2.1 dX12_adds_39 rfl (lv_at hl 0 rfl) ?_
          refine lv_dup S.1 S.2.1 dX12_adds_40 rfl ?_
          refine dgf12_5 S in12 hE hP k0 (S.2.2.2.2 (.fieldLink RX12 86 "DrillFieldModel" "sets" "I") (List.mem_of_getElem? (i := 1) rfl)) dX12_adds_41 ?_
          refine lv_iconst (v := 1) S.1 S.2.1 dX12_adds_44 (by decide) ?_
          refine lv_iadd S.1 S.2.1 dX12_adds_45 ?_
          refine dpf12_5 S in12 hE hP hS k0 (S.2.2.2.2 (.fieldLink RX12 86 "DrillFieldModel" "sets" "I") (List.mem_of_getElem? (i := 1) rfl)) dX12_adds_46 (fun H locs hP hS => ?_)
          obtain ⟨m3, em3⟩ : ∃ z : dM, z = d1 m2 p0 5 ((m2.1 p0 5) + 1) := ⟨_, rfl⟩
          have h := d_let em3 h
          rw [← em3] at hP
          refine lv_aload_n S.1 S.2.1 dX12_adds_49 rfl (lv_at hl 0 rfl) ?_
          refine dgf12_5 S in12 hE hP k0 (S.2.2.2.2 (.fieldLink RX12 86 "DrillFieldModel" "sets" "I") (List.mem_of_getElem? (i := 1) rfl)) dX12_adds_50 ?_
          refine lv_iconst (v := 1) S.1 S.2.1 dX12_adds_53 (by decide) ?_
          refine lv_isub S.1 S.2.1 dX12_adds_54 ?_
          obtain ⟨rfl, rfl⟩ := Prod.mk.inj (Option.some.inj h)
          exact dti S hr hlk hE hP hS rfl dX12_adds_55
        · exact absurd (by decide) cq
      · have h := d_t cq h
        refine lv_iconst (v := 2) S.1 S.2.1 dX12_adds_22 (by decide) ?_
        refine lv_goto (tgt := 27) S.1 S.2.1 dX12_adds_23 (by decide) ?_
        refine dpf12_25 S in12 hE hP hS k0 (S.2.2.2.2 (.fieldLink RX12 76 "DrillFieldModel" "thrown" "I") (List.mem_of_getElem? (i := 2) rfl)) dX12_adds_27 (fun H locs hP hS => ?_)
        obtain ⟨m4, em4⟩ : ∃ z : dM, z = d1 m p0 25 2 := ⟨_, rfl⟩
        have h := d_let em4 h
        rw [← em4] at hP
        refine lv_aload_n S.1 S.2.1 dX12_adds_30 rfl (lv_at hl 0 rfl) ?_
        refine dgf12_25 S in12 hE hP k0 (S.2.2.2.2 (.fieldLink RX12 76 "DrillFieldModel" "thrown" "I") (List.mem_of_getElem? (i := 2) rfl)) dX12_adds_31 ?_
        refine d_top (v := 2) (by rw [em4]; exact d1_get) ?_
        refine lv_if_le (tgt := 39) S.1 S.2.1 dX12_adds_34 (by decide) (fun cq => ?_) (fun cq => ?_)
        · exact absurd cq (by decide)
        · refine lv_iconst (v := 0) S.1 S.2.1 dX12_adds_37 (by decide) ?_
          obtain ⟨rfl, rfl⟩ := Prod.mk.inj (Option.some.inj h)
          exact dti S hr hlk hE hP hS rfl dX12_adds_38
    · have h := d_t cq h
      refine lv_iconst (v := 1) S.1 S.2.1 dX12_adds_9 (by decide) ?_
      refine lv_goto (tgt := 27) S.1 S.2.1 dX12_adds_10 (by decide) ?_
      refine dpf12_25 S in12 hE hP hS k0 (S.2.2.2.2 (.fieldLink RX12 76 "DrillFieldModel" "thrown" "I") (List.mem_of_getElem? (i := 2) rfl)) dX12_adds_27 (fun H locs hP hS => ?_)
      obtain ⟨m5, em5⟩ : ∃ z : dM, z = d1 m p0 25 1 := ⟨_, rfl⟩
      have h := d_let em5 h
      rw [← em5] at hP
      refine lv_aload_n S.1 S.2.1 dX12_adds_30 rfl (lv_at hl 0 rfl) ?_
      refine dgf12_25 S in12 hE hP k0 (S.2.2.2.2 (.fieldLink RX12 76 "DrillFieldModel" "thrown" "I") (List.mem_of_getElem? (i := 2) rfl)) dX12_adds_31 ?_
      refine d_top (v := 1) (by rw [em5]; exact d1_get) ?_
      refine lv_if_le (tgt := 39) S.1 S.2.1 dX12_adds_34 (by decide) (fun cq => ?_) (fun cq => ?_)
      · exact absurd cq (by decide)
      · refine lv_iconst (v := 0) S.1 S.2.1 dX12_adds_37 (by decide) ?_
        obtain ⟨rfl, rfl⟩ := Prod.mk.inj (Option.some.inj h)
        exact dti S hr hlk hE hP hS rfl dX12_adds_38
theorem dX12_agrees_0 : decode cX12_agrees 0 = .ok (.aload_n 0, 1) := by decide +kernel
theorem dX12_agrees_1 : decode cX12_agrees 1 = .ok (.iconst 0, 1) := by decide +kernel
theorem dX12_agrees_2 : decode cX12_agrees 2 = .ok (.putfield 76, 3) := by decide +kernel
theorem dX12_agrees_5 : decode cX12_agrees 5 = .ok (.iconst 1, 1) := by decide +kernel
theorem dX12_agrees_6 : decode cX12_agrees 6 = .ok (.ireturn, 1) := by decide +kernel
def fX12_agrees (m : dM) (p0 : Nat) : Option (Int32 × dM) := dg (dkg p0 13) (dlet (d1 m p0 25 0) (fun m1 => some (1, m1)))
set_option maxHeartbeats 4000000 in
set_option maxRecDepth 100000 in
theorem kX12_agrees (l : Launch) (g : dG) {m : dM} {p0 : Nat} {r0 : Int32} {m0 : dM} (h : fX12_agrees m p0 = some (r0, m0)) : dMet l g yX12_agrees wsX12_agrees (dRm 0 0) [.ref (dad g p0)] m (dQI g r0 m0) := by
  refine dof (cc := cX12_agrees) (maxL := 1) (ret := (some .boolean)) _ (plainFor_of_name (by decide)) rfl (Nat.le_of_ble_eq_true rfl) ?_
  intro p e s mth below meth c S hr hlk hE H ls hP hS hl
  have S : CallFix p mth c cX12_agrees 1 s _ wsX12_agrees RX12 := S
  have hl : lv_has ls 1 [(0, .ref (dad g p0))] := hl
  obtain ⟨locs, hlocs⟩ : ∃ z : List Loc, z = [] := ⟨_, rfl⟩
  rw [← hlocs] at hS ⊢
  have in12 : ∀ w ∈ wsX120, w ∈ wsX12_agrees := by decide +kernel
  unfold fX12_agrees at h
  obtain ⟨k0, h⟩ := d_g h
  have k0 := d_k k0
  refine lv_aload_n S.1 S.2.1 dX12_agrees_0 rfl (lv_at hl 0 rfl) ?_
  refine lv_iconst (v := 0) S.1 S.2.1 dX12_agrees_1 (by decide) ?_
  refine dpf12_25 S in12 hE hP hS k0 (S.2.2.2.2 (.fieldLink RX12 76 "DrillFieldModel" "thrown" "I") (List.mem_of_getElem? (i := 1) rfl)) dX12_agrees_2 (fun H locs hP hS => ?_)
  obtain ⟨m1, em1⟩ : ∃ z : dM, z = d1 m p0 25 0 := ⟨_, rfl⟩
  have h := d_let em1 h
  rw [← em1] at hP
  refine lv_iconst (v := 1) S.1 S.2.1 dX12_agrees_5 (by decide) ?_
  obtain ⟨rfl, rfl⟩ := Prod.mk.inj (Option.some.inj h)
  exact dti S hr hlk hE hP hS rfl dX12_agrees_6
theorem dX12_isIn_0 : decode cX12_isIn 0 = .ok (.iload_n 0, 1) := by decide +kernel
theorem dX12_isIn_1 : decode cX12_isIn 1 = .ok (.iload_n 1, 1) := by decide +kernel
theorem dX12_isIn_2 : decode cX12_isIn 2 = .ok (.if_icmp .lt 12, 3) := by decide +kernel
theorem dX12_isIn_5 : decode cX12_isIn 5 = .ok (.iload_n 0, 1) := by decide +kernel
theorem dX12_isIn_6 : decode cX12_isIn 6 = .ok (.iload_n 2, 1) := by decide +kernel
theorem dX12_isIn_7 : decode cX12_isIn 7 = .ok (.if_icmp .gt 7, 3) := by decide +kernel
theorem dX12_isIn_10 : decode cX12_isIn 10 = .ok (.iconst 1, 1) := by decide +kernel
theorem dX12_isIn_11 : decode cX12_isIn 11 = .ok (.goto 4, 3) := by decide +kernel
theorem dX12_isIn_14 : decode cX12_isIn 14 = .ok (.iconst 0, 1) := by decide +kernel
theorem dX12_isIn_15 : decode cX12_isIn 15 = .ok (.ireturn, 1) := by decide +kernel
def fX12_isIn (m : dM) (p0 : Int32) (p1 : Int32) (p2 : Int32) : Option Int32 := if p0 < p1 then some 0 else if p2 < p0 then some 0 else some 1
set_option maxHeartbeats 4000000 in
set_option maxRecDepth 100000 in
theorem kX12_isIn (l : Launch) (g : dG) {m : dM} {p0 : Int32} {p1 : Int32} {p2 : Int32} {r0 : Int32} (h : fX12_isIn m p0 p1 p2 = some r0) : dMet l g yX12_isIn wsX12_isIn (dRm 0 0) [.int p0, .int p1, .int p2] m (dQI g r0 m) := by
  refine dof (cc := cX12_isIn) (maxL := 3) (ret := (some .boolean)) _ (plainFor_of_name (by decide)) rfl (Nat.le_of_ble_eq_true rfl) ?_
  intro p e s mth below meth c S hr hlk hE H ls hP hS hl
  have S : CallFix p mth c cX12_isIn 3 s _ wsX12_isIn RX12 := S
  have hl : lv_has ls 3 [(0, .int p0), (1, .int p1), (2, .int p2)] := hl
  obtain ⟨locs, hlocs⟩ : ∃ z : List Loc, z = [] := ⟨_, rfl⟩
  rw [← hlocs] at hS ⊢
  unfold fX12_isIn at h
  refine lv_iload_n S.1 S.2.1 dX12_isIn_0 rfl (lv_at hl 0 rfl) ?_
  refine lv_iload_n S.1 S.2.1 dX12_isIn_1 rfl (lv_at hl 1 rfl) ?_
  refine lv_icmp_lt (tgt := 14) S.1 S.2.1 dX12_isIn_2 (by decide) (fun cq => ?_) (fun cq => ?_)
  · have h := d_t cq h
    refine lv_iconst (v := 0) S.1 S.2.1 dX12_isIn_14 (by decide) ?_
    obtain rfl := Option.some.inj h
    exact dti S hr hlk hE hP hS rfl dX12_isIn_15
  · have h := d_f cq h
    refine lv_iload_n S.1 S.2.1 dX12_isIn_5 rfl (lv_at hl 0 rfl) ?_
    refine lv_iload_n S.1 S.2.1 dX12_isIn_6 rfl (lv_at hl 2 rfl) ?_
    refine lv_icmp_gt (tgt := 14) S.1 S.2.1 dX12_isIn_7 (by decide) (fun cq => ?_) (fun cq => ?_)
    · have h := d_t cq h
      refine lv_iconst (v := 0) S.1 S.2.1 dX12_isIn_14 (by decide) ?_
      obtain rfl := Option.some.inj h
      exact dti S hr hlk hE hP hS rfl dX12_isIn_15
    · have h := d_f cq h
      refine lv_iconst (v := 1) S.1 S.2.1 dX12_isIn_10 (by decide) ?_
      refine lv_goto (tgt := 15) S.1 S.2.1 dX12_isIn_11 (by decide) ?_
      obtain rfl := Option.some.inj h
      exact dti S hr hlk hE hP hS rfl dX12_isIn_15
set_option maxRecDepth 20000 in
theorem ggX12_isDot_X12_isIn : GoodIn wsX12_isDot wsX12_isIn := goodIn_r _ [5] (by decide +kernel) (by decide +kernel)
set_option maxRecDepth 20000 in
theorem gX12_isDot_X12_isIn : GoodIn wsX12_isDot (va_wsS RX12 79 yX12_isIn wsX12_isIn) := goodIn_app (goodIn_of _ (by decide +kernel)) ggX12_isDot_X12_isIn
theorem dX12_isDot_0 : decode cX12_isDot 0 = .ok (.iload_n 1, 1) := by decide +kernel
theorem dX12_isDot_1 : decode cX12_isDot 1 = .ok (.iconst 0, 1) := by decide +kernel
theorem dX12_isDot_2 : decode cX12_isDot 2 = .ok (.aload_n 0, 1) := by decide +kernel
theorem dX12_isDot_3 : decode cX12_isDot 3 = .ok (.getfield 7, 3) := by decide +kernel
theorem dX12_isDot_6 : decode cX12_isDot 6 = .ok (.iconst 1, 1) := by decide +kernel
theorem dX12_isDot_7 : decode cX12_isDot 7 = .ok (.isub, 1) := by decide +kernel
theorem dX12_isDot_8 : decode cX12_isDot 8 = .ok (.invokestatic 79, 3) := by decide +kernel
theorem dX12_isDot_11 : decode cX12_isDot 11 = .ok (.ireturn, 1) := by decide +kernel
def fX12_isDot (m : dM) (p0 : Nat) (p1 : Int32) : Option Int32 := dg (dkg p0 13) ((fX12_isIn m p1 0 ((m.1 p0 0) - 1)).bind (fun v2 => dg (dB v2) (some v2)))
set_option maxHeartbeats 4000000 in
set_option maxRecDepth 100000 in
theorem kX12_isDot (l : Launch) (g : dG) {m : dM} {p0 : Nat} {p1 : Int32} {r0 : Int32} (h : fX12_isDot m p0 p1 = some r0) : dMet l g yX12_isDot wsX12_isDot (dRm 1 22) [.ref (dad g p0), .int p1] m (dQI g r0 m) := by
  refine dof (cc := cX12_isDot) (maxL := 2) (ret := (some .boolean)) _ (plainFor_of_name (by decide)) rfl (Nat.le_of_ble_eq_true rfl) ?_
  intro p e s mth below meth c S hr hlk hE H ls hP hS hl
  have S : CallFix p mth c cX12_isDot 2 s _ wsX12_isDot RX12 := S
  have hl : lv_has ls 2 [(0, .ref (dad g p0)), (1, .int p1)] := hl
  obtain ⟨locs, hlocs⟩ : ∃ z : List Loc, z = [] := ⟨_, rfl⟩
  rw [← hlocs] at hS ⊢
  have in12 : ∀ w ∈ wsX120, w ∈ wsX12_isDot := by decide +kernel
  unfold fX12_isDot at h
  obtain ⟨k0, h⟩ := d_g h
  have k0 := d_k k0
  refine lv_iload_n S.1 S.2.1 dX12_isDot_0 rfl (lv_at hl 1 rfl) ?_
  refine lv_iconst (v := 0) S.1 S.2.1 dX12_isDot_1 (by decide) ?_
  refine lv_aload_n S.1 S.2.1 dX12_isDot_2 rfl (lv_at hl 0 rfl) ?_
  refine dgf12_0 S in12 hE hP k0 (S.2.2.2.2 (.fieldLink RX12 7 "DrillFieldModel" "dots" "I") (List.mem_of_getElem? (i := 1) rfl)) dX12_isDot_3 ?_
  refine lv_iconst (v := 1) S.1 S.2.1 dX12_isDot_6 (by decide) ?_
  refine lv_isub S.1 S.2.1 dX12_isDot_7 ?_
  obtain ⟨v2, hc1, h⟩ := d_b h
  refine dri (va_runS (As := [.int p1, .int 0, .int ((m.1 p0 0) - 1)]) (rest := []) S (kX12_isIn l g hc1) (va_cwS 3 S.2.2.2.2 gX12_isDot_X12_isIn rfl rfl rfl ynX12_isIn ⟨Nat.le_of_ble_eq_true rfl, Nat.le_of_ble_eq_true rfl⟩) (dpS hE hP hS) rfl rfl hl.1 rfl (lv_room (Nat.le_of_ble_eq_true rfl)) dX12_isDot_8 ⟨Nat.le_of_ble_eq_true rfl, Nat.le_of_ble_eq_true rfl⟩) hS (fun H locs hP hS => ?_)
  obtain ⟨hb, h⟩ := d_g h
  obtain rfl := Option.some.inj h
  exact dti S hr hlk hE hP hS (dB_nar2 hb) dX12_isDot_11
set_option maxRecDepth 20000 in
theorem ggX12_alternate_X12_isIn : GoodIn wsX12_alternate wsX12_isIn := goodIn_r _ [7] (by decide +kernel) (by decide +kernel)
set_option maxRecDepth 20000 in
theorem gX12_alternate_X12_isIn : GoodIn wsX12_alternate (va_wsS RX12 79 yX12_isIn wsX12_isIn) := goodIn_app (goodIn_of _ (by decide +kernel)) ggX12_alternate_X12_isIn
set_option maxRecDepth 20000 in
theorem ggX12_alternate_X12_isDot : GoodIn wsX12_alternate wsX12_isDot := goodIn_r _ [11, 12, 4, 5, 6, 7, 13, 14, 15, 16, 17, 18, 19, 20, 21, 22, 23, 24, 25, 26, 27, 28, 29, 30, 31, 32, 33, 34, 35, 36, 37, 38, 39, 40] (by decide +kernel) (by decide +kernel)
set_option maxRecDepth 20000 in
theorem gX12_alternate_X12_isDot : GoodIn wsX12_alternate (wsV RX12 89 RX12 yX12_isDot wsX12_isDot) := goodIn_app (goodIn_of _ (by decide +kernel)) ggX12_alternate_X12_isDot
theorem dX12_alternate_0 : decode cX12_alternate 0 = .ok (.aload_n 0, 1) := by decide +kernel
theorem dX12_alternate_1 : decode cX12_alternate 1 = .ok (.iload_n 1, 1) := by decide +kernel
theorem dX12_alternate_2 : decode cX12_alternate 2 = .ok (.iconst 0, 1) := by decide +kernel
theorem dX12_alternate_3 : decode cX12_alternate 3 = .ok (.iconst 2, 1) := by decide +kernel
theorem dX12_alternate_4 : decode cX12_alternate 4 = .ok (.invokestatic 79, 3) := by decide +kernel
theorem dX12_alternate_7 : decode cX12_alternate 7 = .ok (.ifCond .eq 20, 3) := by decide +kernel
theorem dX12_alternate_10 : decode cX12_alternate 10 = .ok (.iload_n 2, 1) := by decide +kernel
theorem dX12_alternate_11 : decode cX12_alternate 11 = .ok (.iconst (-1), 1) := by decide +kernel
theorem dX12_alternate_12 : decode cX12_alternate 12 = .ok (.if_icmp .eq 11, 3) := by decide +kernel
theorem dX12_alternate_15 : decode cX12_alternate 15 = .ok (.aload_n 0, 1) := by decide +kernel
theorem dX12_alternate_16 : decode cX12_alternate 16 = .ok (.iload_n 2, 1) := by decide +kernel
theorem dX12_alternate_17 : decode cX12_alternate 17 = .ok (.invokevirtual 89, 3) := by decide +kernel
theorem dX12_alternate_20 : decode cX12_alternate 20 = .ok (.ifCond .eq 7, 3) := by decide +kernel
theorem dX12_alternate_23 : decode cX12_alternate 23 = .ok (.iconst 0, 1) := by decide +kernel
theorem dX12_alternate_24 : decode cX12_alternate 24 = .ok (.goto 4, 3) := by decide +kernel
theorem dX12_alternate_27 : decode cX12_alternate 27 = .ok (.iconst 1, 1) := by decide +kernel
theorem dX12_alternate_28 : decode cX12_alternate 28 = .ok (.putfield 76, 3) := by decide +kernel
theorem dX12_alternate_31 : decode cX12_alternate 31 = .ok (.aload_n 0, 1) := by decide +kernel
theorem dX12_alternate_32 : decode cX12_alternate 32 = .ok (.getfield 76, 3) := by decide +kernel
theorem dX12_alternate_35 : decode cX12_alternate 35 = .ok (.ifCond .ne 17, 3) := by decide +kernel
theorem dX12_alternate_38 : decode cX12_alternate 38 = .ok (.aload_n 0, 1) := by decide +kernel
theorem dX12_alternate_39 : decode cX12_alternate 39 = .ok (.getfield 21, 3) := by decide +kernel
theorem dX12_alternate_42 : decode cX12_alternate 42 = .ok (.iload_n 1, 1) := by decide +kernel
theorem dX12_alternate_43 : decode cX12_alternate 43 = .ok (.iload_n 2, 1) := by decide +kernel
theorem dX12_alternate_44 : decode cX12_alternate 44 = .ok (.iastore, 1) := by decide +kernel
theorem dX12_alternate_45 : decode cX12_alternate 45 = .ok (.aload_n 0, 1) := by decide +kernel
theorem dX12_alternate_46 : decode cX12_alternate 46 = .ok (.getfield 24, 3) := by decide +kernel
theorem dX12_alternate_49 : decode cX12_alternate 49 = .ok (.iload_n 1, 1) := by decide +kernel
theorem dX12_alternate_50 : decode cX12_alternate 50 = .ok (.iload_n 3, 1) := by decide +kernel
theorem dX12_alternate_51 : decode cX12_alternate 51 = .ok (.bastore, 1) := by decide +kernel
theorem dX12_alternate_52 : decode cX12_alternate 52 = .ok (.return_, 1) := by decide +kernel
def fX12_alternate (m : dM) (p0 : Nat) (p1 : Int32) (p2 : Int32) (p3 : Int32) : Option dM := dg (dkg p0 13) ((fX12_isIn m p1 0 2).bind (fun v2 => if v2 = 0 then dlet (d1 m p0 25 1) (fun m3 => some m3) else if p2 = (-1) then dlet (d1 m p0 25 0) (fun m4 => dg (dIx p1 (dL 447)) (dlet (d1 m4 447 (Int32.toNatClampNeg (p1)) p2) (fun m5 => dg (dIx p1 (dL 448)) (dg (dB p3) (dlet (d1 m5 448 (Int32.toNatClampNeg (p1)) p3) (fun m6 => some m6)))))) else (fX12_isDot m p0 p2).bind (fun v8 => if v8 = 0 then dlet (d1 m p0 25 1) (fun m9 => some m9) else dlet (d1 m p0 25 0) (fun m10 => dg (dIx p1 (dL 447)) (dlet (d1 m10 447 (Int32.toNatClampNeg (p1)) p2) (fun m11 => dg (dIx p1 (dL 448)) (dg (dB p3) (dlet (d1 m11 448 (Int32.toNatClampNeg (p1)) p3) (fun m12 => some m12)))))))))
set_option maxHeartbeats 4000000 in
set_option maxRecDepth 100000 in
theorem kX12_alternate (l : Launch) (g : dG) {m : dM} {p0 : Nat} {p1 : Int32} {p2 : Int32} {p3 : Int32} {m0 : dM} (h : fX12_alternate m p0 p1 p2 p3 = some m0) : dMet l g yX12_alternate wsX12_alternate (dRm 2 43) [.ref (dad g p0), .int p1, .int p2, .int p3] m (dQV g m0) := by
  refine dof (cc := cX12_alternate) (maxL := 4) (ret := none) _ (plainFor_of_name (by decide)) rfl (Nat.le_of_ble_eq_true rfl) ?_
  intro p e s mth below meth c S hr hlk hE H ls hP hS hl
  have S : CallFix p mth c cX12_alternate 4 s _ wsX12_alternate RX12 := S
  have hl : lv_has ls 4 [(0, .ref (dad g p0)), (1, .int p1), (2, .int p2), (3, .int p3)] := hl
  obtain ⟨locs, hlocs⟩ : ∃ z : List Loc, z = [] := ⟨_, rfl⟩
  rw [← hlocs] at hS ⊢
  have in12 : ∀ w ∈ wsX120, w ∈ wsX12_alternate := by decide +kernel
  unfold fX12_alternate at h
  obtain ⟨k0, h⟩ := d_g h
  have k0 := d_k k0
  refine lv_aload_n S.1 S.2.1 dX12_alternate_0 rfl (lv_at hl 0 rfl) ?_
  refine lv_iload_n S.1 S.2.1 dX12_alternate_1 rfl (lv_at hl 1 rfl) ?_
  refine lv_iconst (v := 0) S.1 S.2.1 dX12_alternate_2 (by decide) ?_
  refine lv_iconst (v := 2) S.1 S.2.1 dX12_alternate_3 (by decide) ?_
  obtain ⟨v2, hc1, h⟩ := d_b h
  refine dri (va_runS (As := [.int p1, .int 0, .int 2]) (rest := [.ref (dad g p0)]) S (kX12_isIn l g hc1) (va_cwS 3 S.2.2.2.2 gX12_alternate_X12_isIn rfl rfl rfl ynX12_isIn ⟨Nat.le_of_ble_eq_true rfl, Nat.le_of_ble_eq_true rfl⟩) (dpS hE hP hS) rfl rfl hl.1 rfl (lv_room (Nat.le_of_ble_eq_true rfl)) dX12_alternate_4 ⟨Nat.le_of_ble_eq_true rfl, Nat.le_of_ble_eq_true rfl⟩) hS (fun H locs hP hS => ?_)
  refine lv_if_eq (tgt := 27) S.1 S.2.1 dX12_alternate_7 (by decide) (fun cq => ?_) (fun cq => ?_)
  · have h := d_t cq h
    refine lv_iconst (v := 1) S.1 S.2.1 dX12_alternate_27 (by decide) ?_
    refine dpf12_25 S in12 hE hP hS k0 (S.2.2.2.2 (.fieldLink RX12 76 "DrillFieldModel" "thrown" "I") (List.mem_of_getElem? (i := 1) rfl)) dX12_alternate_28 (fun H locs hP hS => ?_)
    obtain ⟨m3, em3⟩ : ∃ z : dM, z = d1 m p0 25 1 := ⟨_, rfl⟩
    have h := d_let em3 h
    rw [← em3] at hP
    refine lv_aload_n S.1 S.2.1 dX12_alternate_31 rfl (lv_at hl 0 rfl) ?_
    refine dgf12_25 S in12 hE hP k0 (S.2.2.2.2 (.fieldLink RX12 76 "DrillFieldModel" "thrown" "I") (List.mem_of_getElem? (i := 1) rfl)) dX12_alternate_32 ?_
    refine d_top (v := 1) (by rw [em3]; exact d1_get) ?_
    refine lv_if_ne (tgt := 52) S.1 S.2.1 dX12_alternate_35 (by decide) (fun cq => ?_) (fun cq => ?_)
    · obtain rfl := Option.some.inj h
      exact dtv S hr hlk hE hP hS dX12_alternate_52
    · exact absurd cq (by decide)
  · have h := d_f cq h
    refine lv_iload_n S.1 S.2.1 dX12_alternate_10 rfl (lv_at hl 2 rfl) ?_
    refine lv_iconst (v := (-1)) S.1 S.2.1 dX12_alternate_11 (by decide) ?_
    refine lv_icmp_eq (tgt := 23) S.1 S.2.1 dX12_alternate_12 (by decide) (fun cq => ?_) (fun cq => ?_)
    · have h := d_t cq h
      refine lv_iconst (v := 0) S.1 S.2.1 dX12_alternate_23 (by decide) ?_
      refine lv_goto (tgt := 28) S.1 S.2.1 dX12_alternate_24 (by decide) ?_
      refine dpf12_25 S in12 hE hP hS k0 (S.2.2.2.2 (.fieldLink RX12 76 "DrillFieldModel" "thrown" "I") (List.mem_of_getElem? (i := 1) rfl)) dX12_alternate_28 (fun H locs hP hS => ?_)
      obtain ⟨m4, em4⟩ : ∃ z : dM, z = d1 m p0 25 0 := ⟨_, rfl⟩
      have h := d_let em4 h
      rw [← em4] at hP
      refine lv_aload_n S.1 S.2.1 dX12_alternate_31 rfl (lv_at hl 0 rfl) ?_
      refine dgf12_25 S in12 hE hP k0 (S.2.2.2.2 (.fieldLink RX12 76 "DrillFieldModel" "thrown" "I") (List.mem_of_getElem? (i := 1) rfl)) dX12_alternate_32 ?_
      refine d_top (v := 0) (by rw [em4]; exact d1_get) ?_
      refine lv_if_ne (tgt := 52) S.1 S.2.1 dX12_alternate_35 (by decide) (fun cq => ?_) (fun cq => ?_)
      · exact absurd (by decide) cq
      · refine lv_aload_n S.1 S.2.1 dX12_alternate_38 rfl (lv_at hl 0 rfl) ?_
        refine dgf12_3 S in12 hE hP k0 (S.2.2.2.2 (.fieldLink RX12 21 "DrillFieldModel" "knows" "[I") (List.mem_of_getElem? (i := 2) rfl)) dX12_alternate_39 ?_
        refine lv_iload_n S.1 S.2.1 dX12_alternate_42 rfl (lv_at hl 1 rfl) ?_
        refine lv_iload_n S.1 S.2.1 dX12_alternate_43 rfl (lv_at hl 2 rfl) ?_
        obtain ⟨hi, h⟩ := d_g h
        refine d_iast S hE hP hS dk_447 hi dX12_alternate_44 (fun H locs hP hS => ?_)
        obtain ⟨m5, em5⟩ : ∃ z : dM, z = d1 m4 447 (Int32.toNatClampNeg (p1)) p2 := ⟨_, rfl⟩
        have h := d_let em5 h
        rw [← em5] at hP
        refine lv_aload_n S.1 S.2.1 dX12_alternate_45 rfl (lv_at hl 0 rfl) ?_
        refine dgf12_4 S in12 hE hP k0 (S.2.2.2.2 (.fieldLink RX12 24 "DrillFieldModel" "illOne" "[Z") (List.mem_of_getElem? (i := 3) rfl)) dX12_alternate_46 ?_
        refine lv_iload_n S.1 S.2.1 dX12_alternate_49 rfl (lv_at hl 1 rfl) ?_
        refine lv_iload_n S.1 S.2.1 dX12_alternate_50 rfl (lv_at hl 3 rfl) ?_
        obtain ⟨hi, h⟩ := d_g h
        obtain ⟨hb, h⟩ := d_g h
        refine d_zast S hE hP hS dk_448 hi hb dX12_alternate_51 (fun H locs hP hS => ?_)
        obtain ⟨m6, em6⟩ : ∃ z : dM, z = d1 m5 448 (Int32.toNatClampNeg (p1)) p3 := ⟨_, rfl⟩
        have h := d_let em6 h
        rw [← em6] at hP
        obtain rfl := Option.some.inj h
        exact dtv S hr hlk hE hP hS dX12_alternate_52
    · have h := d_f cq h
      refine lv_aload_n S.1 S.2.1 dX12_alternate_15 rfl (lv_at hl 0 rfl) ?_
      refine lv_iload_n S.1 S.2.1 dX12_alternate_16 rfl (lv_at hl 2 rfl) ?_
      obtain ⟨v8, hc7, h⟩ := d_b h
      refine dri (va_runV (As := [.int p2]) (rest := [.ref (dad g p0)]) S (kX12_isDot l g hc7) (cwV 1 S.2.2.2.2 gX12_alternate_X12_isDot rfl rfl rfl ynX12_isDot ⟨Nat.le_of_ble_eq_true rfl, Nat.le_of_ble_eq_true rfl⟩) (dpV hE hP hS (ci := 12) rfl (dat13 k0)) rfl rfl hl.1 rfl (lv_room (Nat.le_of_ble_eq_true rfl)) dX12_alternate_17 ⟨Nat.le_of_ble_eq_true rfl, Nat.le_of_ble_eq_true rfl⟩) hS (fun H locs hP hS => ?_)
      refine lv_if_eq (tgt := 27) S.1 S.2.1 dX12_alternate_20 (by decide) (fun cq => ?_) (fun cq => ?_)
      · have h := d_t cq h
        refine lv_iconst (v := 1) S.1 S.2.1 dX12_alternate_27 (by decide) ?_
        refine dpf12_25 S in12 hE hP hS k0 (S.2.2.2.2 (.fieldLink RX12 76 "DrillFieldModel" "thrown" "I") (List.mem_of_getElem? (i := 1) rfl)) dX12_alternate_28 (fun H locs hP hS => ?_)
        obtain ⟨m9, em9⟩ : ∃ z : dM, z = d1 m p0 25 1 := ⟨_, rfl⟩
        have h := d_let em9 h
        rw [← em9] at hP
        refine lv_aload_n S.1 S.2.1 dX12_alternate_31 rfl (lv_at hl 0 rfl) ?_
        refine dgf12_25 S in12 hE hP k0 (S.2.2.2.2 (.fieldLink RX12 76 "DrillFieldModel" "thrown" "I") (List.mem_of_getElem? (i := 1) rfl)) dX12_alternate_32 ?_
        refine d_top (v := 1) (by rw [em9]; exact d1_get) ?_
        refine lv_if_ne (tgt := 52) S.1 S.2.1 dX12_alternate_35 (by decide) (fun cq => ?_) (fun cq => ?_)
        · obtain rfl := Option.some.inj h
          exact dtv S hr hlk hE hP hS dX12_alternate_52
        · exact absurd cq (by decide)
      · have h := d_f cq h
        refine lv_iconst (v := 0) S.1 S.2.1 dX12_alternate_23 (by decide) ?_
        refine lv_goto (tgt := 28) S.1 S.2.1 dX12_alternate_24 (by decide) ?_
        refine dpf12_25 S in12 hE hP hS k0 (S.2.2.2.2 (.fieldLink RX12 76 "DrillFieldModel" "thrown" "I") (List.mem_of_getElem? (i := 1) rfl)) dX12_alternate_28 (fun H locs hP hS => ?_)
        obtain ⟨m10, em10⟩ : ∃ z : dM, z = d1 m p0 25 0 := ⟨_, rfl⟩
        have h := d_let em10 h
        rw [← em10] at hP
        refine lv_aload_n S.1 S.2.1 dX12_alternate_31 rfl (lv_at hl 0 rfl) ?_
        refine dgf12_25 S in12 hE hP k0 (S.2.2.2.2 (.fieldLink RX12 76 "DrillFieldModel" "thrown" "I") (List.mem_of_getElem? (i := 1) rfl)) dX12_alternate_32 ?_
        refine d_top (v := 0) (by rw [em10]; exact d1_get) ?_
        refine lv_if_ne (tgt := 52) S.1 S.2.1 dX12_alternate_35 (by decide) (fun cq => ?_) (fun cq => ?_)
        · exact absurd (by decide) cq
        · refine lv_aload_n S.1 S.2.1 dX12_alternate_38 rfl (lv_at hl 0 rfl) ?_
          refine dgf12_3 S in12 hE hP k0 (S.2.2.2.2 (.fieldLink RX12 21 "DrillFieldModel" "knows" "[I") (List.mem_of_getElem? (i := 2) rfl)) dX12_alternate_39 ?_
          refine lv_iload_n S.1 S.2.1 dX12_alternate_42 rfl (lv_at hl 1 rfl) ?_
          refine lv_iload_n S.1 S.2.1 dX12_alternate_43 rfl (lv_at hl 2 rfl) ?_
          obtain ⟨hi, h⟩ := d_g h
          refine d_iast S hE hP hS dk_447 hi dX12_alternate_44 (fun H locs hP hS => ?_)
          obtain ⟨m11, em11⟩ : ∃ z : dM, z = d1 m10 447 (Int32.toNatClampNeg (p1)) p2 := ⟨_, rfl⟩
          have h := d_let em11 h
          rw [← em11] at hP
          refine lv_aload_n S.1 S.2.1 dX12_alternate_45 rfl (lv_at hl 0 rfl) ?_
          refine dgf12_4 S in12 hE hP k0 (S.2.2.2.2 (.fieldLink RX12 24 "DrillFieldModel" "illOne" "[Z") (List.mem_of_getElem? (i := 3) rfl)) dX12_alternate_46 ?_
          refine lv_iload_n S.1 S.2.1 dX12_alternate_49 rfl (lv_at hl 1 rfl) ?_
          refine lv_iload_n S.1 S.2.1 dX12_alternate_50 rfl (lv_at hl 3 rfl) ?_
          obtain ⟨hi, h⟩ := d_g h
          obtain ⟨hb, h⟩ := d_g h
          refine d_zast S hE hP hS dk_448 hi hb dX12_alternate_51 (fun H locs hP hS => ?_)
          obtain ⟨m12, em12⟩ : ∃ z : dM, z = d1 m11 448 (Int32.toNatClampNeg (p1)) p3 := ⟨_, rfl⟩
          have h := d_let em12 h
          rw [← em12] at hP
          obtain rfl := Option.some.inj h
          exact dtv S hr hlk hE hP hS dX12_alternate_52
theorem dX12_endX_0 : decode cX12_endX 0 = .ok (.aload_n 0, 1) := by decide +kernel
theorem dX12_endX_1 : decode cX12_endX 1 = .ok (.getfield 27, 3) := by decide +kernel
theorem dX12_endX_4 : decode cX12_endX 4 = .ok (.bipush 10, 2) := by decide +kernel
theorem dX12_endX_6 : decode cX12_endX 6 = .ok (.aload_n 0, 1) := by decide +kernel
theorem dX12_endX_7 : decode cX12_endX 7 = .ok (.getfield 33, 3) := by decide +kernel
theorem dX12_endX_10 : decode cX12_endX 10 = .ok (.iload_n 1, 1) := by decide +kernel
theorem dX12_endX_11 : decode cX12_endX 11 = .ok (.iaload, 1) := by decide +kernel
theorem dX12_endX_12 : decode cX12_endX 12 = .ok (.imul, 1) := by decide +kernel
theorem dX12_endX_13 : decode cX12_endX 13 = .ok (.aload_n 0, 1) := by decide +kernel
theorem dX12_endX_14 : decode cX12_endX 14 = .ok (.getfield 45, 3) := by decide +kernel
theorem dX12_endX_17 : decode cX12_endX 17 = .ok (.bipush 10, 2) := by decide +kernel
theorem dX12_endX_19 : decode cX12_endX 19 = .ok (.iload_n 1, 1) := by decide +kernel
theorem dX12_endX_20 : decode cX12_endX 20 = .ok (.imul, 1) := by decide +kernel
theorem dX12_endX_21 : decode cX12_endX 21 = .ok (.iload_n 2, 1) := by decide +kernel
theorem dX12_endX_22 : decode cX12_endX 22 = .ok (.iadd, 1) := by decide +kernel
theorem dX12_endX_23 : decode cX12_endX 23 = .ok (.iaload, 1) := by decide +kernel
theorem dX12_endX_24 : decode cX12_endX 24 = .ok (.iadd, 1) := by decide +kernel
theorem dX12_endX_25 : decode cX12_endX 25 = .ok (.iaload, 1) := by decide +kernel
theorem dX12_endX_26 : decode cX12_endX 26 = .ok (.ireturn, 1) := by decide +kernel
def fX12_endX (m : dM) (p0 : Nat) (p1 : Int32) (p2 : Int32) : Option Int32 := dg (dkg p0 13) (dg (dIx p1 (dL 451)) (dg (dIx ((10 * p1) + p2) (dL 455)) (dg (dIx ((10 * (m.1 451 (Int32.toNatClampNeg (p1)))) + (m.1 455 (Int32.toNatClampNeg ((10 * p1) + p2)))) (dL 449)) (some (m.1 449 (Int32.toNatClampNeg ((10 * (m.1 451 (Int32.toNatClampNeg (p1)))) + (m.1 455 (Int32.toNatClampNeg ((10 * p1) + p2))))))))))
set_option maxHeartbeats 4000000 in
set_option maxRecDepth 100000 in
theorem kX12_endX (l : Launch) (g : dG) {m : dM} {p0 : Nat} {p1 : Int32} {p2 : Int32} {r0 : Int32} (h : fX12_endX m p0 p1 p2 = some r0) : dMet l g yX12_endX wsX12_endX (dRm 0 0) [.ref (dad g p0), .int p1, .int p2] m (dQI g r0 m) := by
  refine dof (cc := cX12_endX) (maxL := 3) (ret := (some .int)) _ (plainFor_of_name (by decide)) rfl (Nat.le_of_ble_eq_true rfl) ?_
  intro p e s mth below meth c S hr hlk hE H ls hP hS hl
  have S : CallFix p mth c cX12_endX 3 s _ wsX12_endX RX12 := S
  have hl : lv_has ls 3 [(0, .ref (dad g p0)), (1, .int p1), (2, .int p2)] := hl
  obtain ⟨locs, hlocs⟩ : ∃ z : List Loc, z = [] := ⟨_, rfl⟩
  rw [← hlocs] at hS ⊢
  have in12 : ∀ w ∈ wsX120, w ∈ wsX12_endX := by decide +kernel
  unfold fX12_endX at h
  obtain ⟨k0, h⟩ := d_g h
  have k0 := d_k k0
  refine lv_aload_n S.1 S.2.1 dX12_endX_0 rfl (lv_at hl 0 rfl) ?_
  refine dgf12_6 S in12 hE hP k0 (S.2.2.2.2 (.fieldLink RX12 27 "DrillFieldModel" "setX" "[I") (List.mem_of_getElem? (i := 1) rfl)) dX12_endX_1 ?_
  refine lv_bipush (v := 10) S.1 S.2.1 dX12_endX_4 (by decide) ?_
  refine lv_aload_n S.1 S.2.1 dX12_endX_6 rfl (lv_at hl 0 rfl) ?_
  refine dgf12_9 S in12 hE hP k0 (S.2.2.2.2 (.fieldLink RX12 33 "DrillFieldModel" "setOf" "[I") (List.mem_of_getElem? (i := 2) rfl)) dX12_endX_7 ?_
  refine lv_iload_n S.1 S.2.1 dX12_endX_10 rfl (lv_at hl 1 rfl) ?_
  obtain ⟨hi, h⟩ := d_g h
  refine d_iald S hE hP dk_451 hi dX12_endX_11 ?_
  refine lv_imul S.1 S.2.1 dX12_endX_12 ?_
  refine lv_aload_n S.1 S.2.1 dX12_endX_13 rfl (lv_at hl 0 rfl) ?_
  refine dgf12_13 S in12 hE hP k0 (S.2.2.2.2 (.fieldLink RX12 45 "DrillFieldModel" "goes" "[I") (List.mem_of_getElem? (i := 3) rfl)) dX12_endX_14 ?_
  refine lv_bipush (v := 10) S.1 S.2.1 dX12_endX_17 (by decide) ?_
  refine lv_iload_n S.1 S.2.1 dX12_endX_19 rfl (lv_at hl 1 rfl) ?_
  refine lv_imul S.1 S.2.1 dX12_endX_20 ?_
  refine lv_iload_n S.1 S.2.1 dX12_endX_21 rfl (lv_at hl 2 rfl) ?_
  refine lv_iadd S.1 S.2.1 dX12_endX_22 ?_
  obtain ⟨hi, h⟩ := d_g h
  refine d_iald S hE hP dk_455 hi dX12_endX_23 ?_
  refine lv_iadd S.1 S.2.1 dX12_endX_24 ?_
  obtain ⟨hi, h⟩ := d_g h
  refine d_iald S hE hP dk_449 hi dX12_endX_25 ?_
  obtain rfl := Option.some.inj h
  exact dti S hr hlk hE hP hS rfl dX12_endX_26
set_option maxRecDepth 20000 in
theorem ggX12_beginX_X12_endX : GoodIn wsX12_beginX wsX12_endX := goodIn_r _ [5, 6, 7, 8, 9, 10, 11, 12, 13, 14, 15, 16, 17, 18, 19, 20, 21, 22, 23, 24, 25, 26, 27, 28, 29, 30, 31, 32, 33, 34, 35, 36] (by decide +kernel) (by decide +kernel)
set_option maxRecDepth 20000 in
theorem gX12_beginX_X12_endX : GoodIn wsX12_beginX (wsV RX12 112 RX12 yX12_endX wsX12_endX) := goodIn_app (goodIn_of _ (by decide +kernel)) ggX12_beginX_X12_endX
theorem dX12_beginX_0 : decode cX12_beginX 0 = .ok (.aload_n 0, 1) := by decide +kernel
theorem dX12_beginX_1 : decode cX12_beginX 1 = .ok (.iload_n 1, 1) := by decide +kernel
theorem dX12_beginX_2 : decode cX12_beginX 2 = .ok (.ifCond .ne 7, 3) := by decide +kernel
theorem dX12_beginX_5 : decode cX12_beginX 5 = .ok (.iconst 0, 1) := by decide +kernel
theorem dX12_beginX_6 : decode cX12_beginX 6 = .ok (.goto 6, 3) := by decide +kernel
theorem dX12_beginX_9 : decode cX12_beginX 9 = .ok (.iload_n 1, 1) := by decide +kernel
theorem dX12_beginX_10 : decode cX12_beginX 10 = .ok (.iconst 1, 1) := by decide +kernel
theorem dX12_beginX_11 : decode cX12_beginX 11 = .ok (.isub, 1) := by decide +kernel
theorem dX12_beginX_12 : decode cX12_beginX 12 = .ok (.iload_n 2, 1) := by decide +kernel
theorem dX12_beginX_13 : decode cX12_beginX 13 = .ok (.invokevirtual 112, 3) := by decide +kernel
theorem dX12_beginX_16 : decode cX12_beginX 16 = .ok (.ireturn, 1) := by decide +kernel
def fX12_beginX (m : dM) (p0 : Nat) (p1 : Int32) (p2 : Int32) : Option Int32 := dg (dkg p0 13) (if p1 = 0 then (fX12_endX m p0 0 p2).bind (fun v4 => some v4) else (fX12_endX m p0 (p1 - 1) p2).bind (fun v2 => some v2))
set_option maxHeartbeats 4000000 in
set_option maxRecDepth 100000 in
theorem kX12_beginX (l : Launch) (g : dG) {m : dM} {p0 : Nat} {p1 : Int32} {p2 : Int32} {r0 : Int32} (h : fX12_beginX m p0 p1 p2 = some r0) : dMet l g yX12_beginX wsX12_beginX (dRm 1 22) [.ref (dad g p0), .int p1, .int p2] m (dQI g r0 m) := by
  refine dof (cc := cX12_beginX) (maxL := 3) (ret := (some .int)) _ (plainFor_of_name (by decide)) rfl (Nat.le_of_ble_eq_true rfl) ?_
  intro p e s mth below meth c S hr hlk hE H ls hP hS hl
  have S : CallFix p mth c cX12_beginX 3 s _ wsX12_beginX RX12 := S
  have hl : lv_has ls 3 [(0, .ref (dad g p0)), (1, .int p1), (2, .int p2)] := hl
  obtain ⟨locs, hlocs⟩ : ∃ z : List Loc, z = [] := ⟨_, rfl⟩
  rw [← hlocs] at hS ⊢
  unfold fX12_beginX at h
  obtain ⟨k0, h⟩ := d_g h
  have k0 := d_k k0
  refine lv_aload_n S.1 S.2.1 dX12_beginX_0 rfl (lv_at hl 0 rfl) ?_
  refine lv_iload_n S.1 S.2.1 dX12_beginX_1 rfl (lv_at hl 1 rfl) ?_
  refine lv_if_ne (tgt := 9) S.1 S.2.1 dX12_beginX_2 (by decide) (fun cq => ?_) (fun cq => ?_)
  · have h := d_f cq h
    refine lv_iload_n S.1 S.2.1 dX12_beginX_9 rfl (lv_at hl 1 rfl) ?_
    refine lv_iconst (v := 1) S.1 S.2.1 dX12_beginX_10 (by decide) ?_
    refine lv_isub S.1 S.2.1 dX12_beginX_11 ?_
    refine lv_iload_n S.1 S.2.1 dX12_beginX_12 rfl (lv_at hl 2 rfl) ?_
    obtain ⟨v2, hc1, h⟩ := d_b h
    refine dri (va_runV (As := [.int (p1 - 1), .int p2]) (rest := []) S (kX12_endX l g hc1) (cwV 2 S.2.2.2.2 gX12_beginX_X12_endX rfl rfl rfl ynX12_endX ⟨Nat.le_of_ble_eq_true rfl, Nat.le_of_ble_eq_true rfl⟩) (dpV hE hP hS (ci := 12) rfl (dat13 k0)) rfl rfl hl.1 rfl (lv_room (Nat.le_of_ble_eq_true rfl)) dX12_beginX_13 ⟨Nat.le_of_ble_eq_true rfl, Nat.le_of_ble_eq_true rfl⟩) hS (fun H locs hP hS => ?_)
    obtain rfl := Option.some.inj h
    exact dti S hr hlk hE hP hS rfl dX12_beginX_16
  · have h := d_t cq h
    refine lv_iconst (v := 0) S.1 S.2.1 dX12_beginX_5 (by decide) ?_
    refine lv_goto (tgt := 12) S.1 S.2.1 dX12_beginX_6 (by decide) ?_
    refine lv_iload_n S.1 S.2.1 dX12_beginX_12 rfl (lv_at hl 2 rfl) ?_
    obtain ⟨v4, hc3, h⟩ := d_b h
    refine dri (va_runV (As := [.int 0, .int p2]) (rest := []) S (kX12_endX l g hc3) (cwV 2 S.2.2.2.2 gX12_beginX_X12_endX rfl rfl rfl ynX12_endX ⟨Nat.le_of_ble_eq_true rfl, Nat.le_of_ble_eq_true rfl⟩) (dpV hE hP hS (ci := 12) rfl (dat13 k0)) rfl rfl hl.1 rfl (lv_room (Nat.le_of_ble_eq_true rfl)) dX12_beginX_13 ⟨Nat.le_of_ble_eq_true rfl, Nat.le_of_ble_eq_true rfl⟩) hS (fun H locs hP hS => ?_)
    obtain rfl := Option.some.inj h
    exact dti S hr hlk hE hP hS rfl dX12_beginX_16
theorem dX12_down_0 : decode cX12_down 0 = .ok (.iload_n 0, 1) := by decide +kernel
theorem dX12_down_1 : decode cX12_down 1 = .ok (.iload_n 1, 1) := by decide +kernel
theorem dX12_down_2 : decode cX12_down 2 = .ok (.idiv, 1) := by decide +kernel
theorem dX12_down_3 : decode cX12_down 3 = .ok (.istore_n 2, 1) := by decide +kernel
theorem dX12_down_4 : decode cX12_down 4 = .ok (.iload_n 0, 1) := by decide +kernel
theorem dX12_down_5 : decode cX12_down 5 = .ok (.iload_n 1, 1) := by decide +kernel
theorem dX12_down_6 : decode cX12_down 6 = .ok (.irem, 1) := by decide +kernel
theorem dX12_down_7 : decode cX12_down 7 = .ok (.ifCond .ge 9, 3) := by decide +kernel
theorem dX12_down_10 : decode cX12_down 10 = .ok (.iload_n 2, 1) := by decide +kernel
theorem dX12_down_11 : decode cX12_down 11 = .ok (.iconst 1, 1) := by decide +kernel
theorem dX12_down_12 : decode cX12_down 12 = .ok (.isub, 1) := by decide +kernel
theorem dX12_down_13 : decode cX12_down 13 = .ok (.goto 4, 3) := by decide +kernel
theorem dX12_down_16 : decode cX12_down 16 = .ok (.iload_n 2, 1) := by decide +kernel
theorem dX12_down_17 : decode cX12_down 17 = .ok (.ireturn, 1) := by decide +kernel
def fX12_down (m : dM) (p0 : Int32) (p1 : Int32) : Option Int32 := dg (decide (¬ p1 = 0)) (dlet (p0 / p1 : Int32) (fun v1 => dg (decide (¬ p1 = 0)) (if 0 ≤ (p0 - p0 / p1 * p1) then some v1 else some (v1 - 1))))
set_option maxHeartbeats 4000000 in
set_option maxRecDepth 100000 in
theorem kX12_down (l : Launch) (g : dG) {m : dM} {p0 : Int32} {p1 : Int32} {r0 : Int32} (h : fX12_down m p0 p1 = some r0) : dMet l g yX12_down wsX12_down (dRm 0 0) [.int p0, .int p1] m (dQI g r0 m) := by
  refine dof (cc := cX12_down) (maxL := 3) (ret := (some .int)) _ (plainFor_of_name (by decide)) rfl (Nat.le_of_ble_eq_true rfl) ?_
  intro p e s mth below meth c S hr hlk hE H ls hP hS hl
  have S : CallFix p mth c cX12_down 3 s _ wsX12_down RX12 := S
  have hl : lv_has ls 3 [(0, .int p0), (1, .int p1)] := hl
  obtain ⟨locs, hlocs⟩ : ∃ z : List Loc, z = [] := ⟨_, rfl⟩
  rw [← hlocs] at hS ⊢
  unfold fX12_down at h
  refine lv_iload_n S.1 S.2.1 dX12_down_0 rfl (lv_at hl 0 rfl) ?_
  refine lv_iload_n S.1 S.2.1 dX12_down_1 rfl (lv_at hl 1 rfl) ?_
  obtain ⟨hz, h⟩ := d_g h
  refine lv_idiv S.1 S.2.1 dX12_down_2 (of_decide_eq_true hz) ?_
  refine lv_topi (fun v1 ev1 => ?_)
  have h := d_let ev1 h
  refine lv_istore_n (lv' := [(2, .int v1), (0, .int p0), (1, .int p1)]) S.1 S.2.1 dX12_down_3 rfl hl (by decide) rfl (fun ls hl => ?_)
  refine lv_iload_n S.1 S.2.1 dX12_down_4 rfl (lv_at hl 1 rfl) ?_
  refine lv_iload_n S.1 S.2.1 dX12_down_5 rfl (lv_at hl 2 rfl) ?_
  obtain ⟨hz, h⟩ := d_g h
  refine lv_irem S.1 S.2.1 dX12_down_6 (of_decide_eq_true hz) ?_
  refine lv_if_ge (tgt := 16) S.1 S.2.1 dX12_down_7 (by decide) (fun cq => ?_) (fun cq => ?_)
  · have h := d_t cq h
    refine lv_iload_n S.1 S.2.1 dX12_down_16 rfl (lv_at hl 0 rfl) ?_
    obtain rfl := Option.some.inj h
    exact dti S hr hlk hE hP hS rfl dX12_down_17
  · have h := d_f cq h
    refine lv_iload_n S.1 S.2.1 dX12_down_10 rfl (lv_at hl 0 rfl) ?_
    refine lv_iconst (v := 1) S.1 S.2.1 dX12_down_11 (by decide) ?_
    refine lv_isub S.1 S.2.1 dX12_down_12 ?_
    refine lv_goto (tgt := 17) S.1 S.2.1 dX12_down_13 (by decide) ?_
    obtain rfl := Option.some.inj h
    exact dti S hr hlk hE hP hS rfl dX12_down_17
set_option maxRecDepth 20000 in
theorem ggX12_xAt_X12_beginX : GoodIn wsX12_xAt wsX12_beginX := goodIn_r _ [6, 7, 8, 9, 5, 10, 11, 12, 13, 17, 18, 19, 20, 21, 22, 23, 24, 25, 26, 27, 28, 29, 30, 31, 32, 33, 34, 35, 36, 37, 38, 39, 40, 41, 42, 43, 44] (by decide +kernel) (by decide +kernel)
set_option maxRecDepth 20000 in
theorem gX12_xAt_X12_beginX : GoodIn wsX12_xAt (wsV RX12 118 RX12 yX12_beginX wsX12_beginX) := goodIn_app (goodIn_of _ (by decide +kernel)) ggX12_xAt_X12_beginX
set_option maxRecDepth 20000 in
theorem ggX12_xAt_X12_endX : GoodIn wsX12_xAt wsX12_endX := goodIn_r _ [10, 11, 12, 13, 17, 18, 19, 20, 21, 22, 23, 24, 25, 26, 27, 28, 29, 30, 31, 32, 33, 34, 35, 36, 37, 38, 39, 40, 41, 42, 43, 44] (by decide +kernel) (by decide +kernel)
set_option maxRecDepth 20000 in
theorem gX12_xAt_X12_endX : GoodIn wsX12_xAt (wsV RX12 112 RX12 yX12_endX wsX12_endX) := goodIn_app (goodIn_of _ (by decide +kernel)) ggX12_xAt_X12_endX
set_option maxRecDepth 20000 in
theorem ggX12_xAt_X12_down : GoodIn wsX12_xAt wsX12_down := goodIn_r _ [16] (by decide +kernel) (by decide +kernel)
set_option maxRecDepth 20000 in
theorem gX12_xAt_X12_down : GoodIn wsX12_xAt (va_wsS RX12 96 yX12_down wsX12_down) := goodIn_app (goodIn_of _ (by decide +kernel)) ggX12_xAt_X12_down
theorem dX12_xAt_0 : decode cX12_xAt 0 = .ok (.aload_n 0, 1) := by decide +kernel
theorem dX12_xAt_1 : decode cX12_xAt 1 = .ok (.iload_n 1, 1) := by decide +kernel
theorem dX12_xAt_2 : decode cX12_xAt 2 = .ok (.iload_n 3, 1) := by decide +kernel
theorem dX12_xAt_3 : decode cX12_xAt 3 = .ok (.invokevirtual 118, 3) := by decide +kernel
theorem dX12_xAt_6 : decode cX12_xAt 6 = .ok (.istore 4, 2) := by decide +kernel
theorem dX12_xAt_8 : decode cX12_xAt 8 = .ok (.iload 4, 2) := by decide +kernel
theorem dX12_xAt_10 : decode cX12_xAt 10 = .ok (.iload_n 2, 1) := by decide +kernel
theorem dX12_xAt_11 : decode cX12_xAt 11 = .ok (.aload_n 0, 1) := by decide +kernel
theorem dX12_xAt_12 : decode cX12_xAt 12 = .ok (.iload_n 1, 1) := by decide +kernel
theorem dX12_xAt_13 : decode cX12_xAt 13 = .ok (.iload_n 3, 1) := by decide +kernel
theorem dX12_xAt_14 : decode cX12_xAt 14 = .ok (.invokevirtual 112, 3) := by decide +kernel
theorem dX12_xAt_17 : decode cX12_xAt 17 = .ok (.iload 4, 2) := by decide +kernel
theorem dX12_xAt_19 : decode cX12_xAt 19 = .ok (.isub, 1) := by decide +kernel
theorem dX12_xAt_20 : decode cX12_xAt 20 = .ok (.imul, 1) := by decide +kernel
theorem dX12_xAt_21 : decode cX12_xAt 21 = .ok (.aload_n 0, 1) := by decide +kernel
theorem dX12_xAt_22 : decode cX12_xAt 22 = .ok (.getfield 36, 3) := by decide +kernel
theorem dX12_xAt_25 : decode cX12_xAt 25 = .ok (.iload_n 1, 1) := by decide +kernel
theorem dX12_xAt_26 : decode cX12_xAt 26 = .ok (.iaload, 1) := by decide +kernel
theorem dX12_xAt_27 : decode cX12_xAt 27 = .ok (.invokestatic 96, 3) := by decide +kernel
theorem dX12_xAt_30 : decode cX12_xAt 30 = .ok (.iadd, 1) := by decide +kernel
theorem dX12_xAt_31 : decode cX12_xAt 31 = .ok (.ireturn, 1) := by decide +kernel
def fX12_xAt (m : dM) (p0 : Nat) (p1 : Int32) (p2 : Int32) (p3 : Int32) : Option Int32 := dg (dkg p0 13) ((fX12_beginX m p0 p1 p3).bind (fun v2 => (fX12_endX m p0 p1 p3).bind (fun v4 => dg (dIx p1 (dL 452)) ((fX12_down m (p2 * (v4 - v2)) (m.1 452 (Int32.toNatClampNeg (p1)))).bind (fun v6 => some (v2 + v6))))))
set_option maxHeartbeats 4000000 in
set_option maxRecDepth 100000 in
theorem kX12_xAt (l : Launch) (g : dG) {m : dM} {p0 : Nat} {p1 : Int32} {p2 : Int32} {p3 : Int32} {r0 : Int32} (h : fX12_xAt m p0 p1 p2 p3 = some r0) : dMet l g yX12_xAt wsX12_xAt (dRm 2 44) [.ref (dad g p0), .int p1, .int p2, .int p3] m (dQI g r0 m) := by
  refine dof (cc := cX12_xAt) (maxL := 5) (ret := (some .int)) _ (plainFor_of_name (by decide)) rfl (Nat.le_of_ble_eq_true rfl) ?_
  intro p e s mth below meth c S hr hlk hE H ls hP hS hl
  have S : CallFix p mth c cX12_xAt 5 s _ wsX12_xAt RX12 := S
  have hl : lv_has ls 5 [(0, .ref (dad g p0)), (1, .int p1), (2, .int p2), (3, .int p3)] := hl
  obtain ⟨locs, hlocs⟩ : ∃ z : List Loc, z = [] := ⟨_, rfl⟩
  rw [← hlocs] at hS ⊢
  have in12 : ∀ w ∈ wsX120, w ∈ wsX12_xAt := by decide +kernel
  unfold fX12_xAt at h
  obtain ⟨k0, h⟩ := d_g h
  have k0 := d_k k0
  refine lv_aload_n S.1 S.2.1 dX12_xAt_0 rfl (lv_at hl 0 rfl) ?_
  refine lv_iload_n S.1 S.2.1 dX12_xAt_1 rfl (lv_at hl 1 rfl) ?_
  refine lv_iload_n S.1 S.2.1 dX12_xAt_2 rfl (lv_at hl 3 rfl) ?_
  obtain ⟨v2, hc1, h⟩ := d_b h
  refine dri (va_runV (As := [.int p1, .int p3]) (rest := []) S (kX12_beginX l g hc1) (cwV 2 S.2.2.2.2 gX12_xAt_X12_beginX rfl rfl rfl ynX12_beginX ⟨Nat.le_of_ble_eq_true rfl, Nat.le_of_ble_eq_true rfl⟩) (dpV hE hP hS (ci := 12) rfl (dat13 k0)) rfl rfl hl.1 rfl (lv_room (Nat.le_of_ble_eq_true rfl)) dX12_xAt_3 ⟨Nat.le_of_ble_eq_true rfl, Nat.le_of_ble_eq_true rfl⟩) hS (fun H locs hP hS => ?_)
  refine lv_istore (lv' := [(4, .int v2), (0, .ref (dad g p0)), (1, .int p1), (2, .int p2), (3, .int p3)]) S.1 S.2.1 dX12_xAt_6 hl (by decide) rfl (fun ls hl => ?_)
  refine lv_iload S.1 S.2.1 dX12_xAt_8 (lv_at hl 0 rfl) ?_
  refine lv_iload_n S.1 S.2.1 dX12_xAt_10 rfl (lv_at hl 3 rfl) ?_
  refine lv_aload_n S.1 S.2.1 dX12_xAt_11 rfl (lv_at hl 1 rfl) ?_
  refine lv_iload_n S.1 S.2.1 dX12_xAt_12 rfl (lv_at hl 2 rfl) ?_
  refine lv_iload_n S.1 S.2.1 dX12_xAt_13 rfl (lv_at hl 4 rfl) ?_
  obtain ⟨v4, hc3, h⟩ := d_b h
  refine dri (va_runV (As := [.int p1, .int p3]) (rest := [.int p2, .int v2]) S (kX12_endX l g hc3) (cwV 2 S.2.2.2.2 gX12_xAt_X12_endX rfl rfl rfl ynX12_endX ⟨Nat.le_of_ble_eq_true rfl, Nat.le_of_ble_eq_true rfl⟩) (dpV hE hP hS (ci := 12) rfl (dat13 k0)) rfl rfl hl.1 rfl (lv_room (Nat.le_of_ble_eq_true rfl)) dX12_xAt_14 ⟨Nat.le_of_ble_eq_true rfl, Nat.le_of_ble_eq_true rfl⟩) hS (fun H locs hP hS => ?_)
  refine lv_iload S.1 S.2.1 dX12_xAt_17 (lv_at hl 0 rfl) ?_
  refine lv_isub S.1 S.2.1 dX12_xAt_19 ?_
  refine lv_imul S.1 S.2.1 dX12_xAt_20 ?_
  refine lv_aload_n S.1 S.2.1 dX12_xAt_21 rfl (lv_at hl 1 rfl) ?_
  refine dgf12_10 S in12 hE hP k0 (S.2.2.2.2 (.fieldLink RX12 36 "DrillFieldModel" "counts" "[I") (List.mem_of_getElem? (i := 1) rfl)) dX12_xAt_22 ?_
  refine lv_iload_n S.1 S.2.1 dX12_xAt_25 rfl (lv_at hl 2 rfl) ?_
  obtain ⟨hi, h⟩ := d_g h
  refine d_iald S hE hP dk_452 hi dX12_xAt_26 ?_
  obtain ⟨v6, hc5, h⟩ := d_b h
  refine dri (va_runS (As := [.int (p2 * (v4 - v2)), .int (m.1 452 (Int32.toNatClampNeg (p1)))]) (rest := [.int v2]) S (kX12_down l g hc5) (va_cwS 2 S.2.2.2.2 gX12_xAt_X12_down rfl rfl rfl ynX12_down ⟨Nat.le_of_ble_eq_true rfl, Nat.le_of_ble_eq_true rfl⟩) (dpS hE hP hS) rfl rfl hl.1 rfl (lv_room (Nat.le_of_ble_eq_true rfl)) dX12_xAt_27 ⟨Nat.le_of_ble_eq_true rfl, Nat.le_of_ble_eq_true rfl⟩) hS (fun H locs hP hS => ?_)
  refine lv_iadd S.1 S.2.1 dX12_xAt_30 ?_
  obtain rfl := Option.some.inj h
  exact dti S hr hlk hE hP hS rfl dX12_xAt_31
theorem dX12_endY_0 : decode cX12_endY 0 = .ok (.aload_n 0, 1) := by decide +kernel
theorem dX12_endY_1 : decode cX12_endY 1 = .ok (.getfield 30, 3) := by decide +kernel
theorem dX12_endY_4 : decode cX12_endY 4 = .ok (.bipush 10, 2) := by decide +kernel
theorem dX12_endY_6 : decode cX12_endY 6 = .ok (.aload_n 0, 1) := by decide +kernel
theorem dX12_endY_7 : decode cX12_endY 7 = .ok (.getfield 33, 3) := by decide +kernel
theorem dX12_endY_10 : decode cX12_endY 10 = .ok (.iload_n 1, 1) := by decide +kernel
theorem dX12_endY_11 : decode cX12_endY 11 = .ok (.iaload, 1) := by decide +kernel
theorem dX12_endY_12 : decode cX12_endY 12 = .ok (.imul, 1) := by decide +kernel
theorem dX12_endY_13 : decode cX12_endY 13 = .ok (.aload_n 0, 1) := by decide +kernel
theorem dX12_endY_14 : decode cX12_endY 14 = .ok (.getfield 45, 3) := by decide +kernel
theorem dX12_endY_17 : decode cX12_endY 17 = .ok (.bipush 10, 2) := by decide +kernel
theorem dX12_endY_19 : decode cX12_endY 19 = .ok (.iload_n 1, 1) := by decide +kernel
theorem dX12_endY_20 : decode cX12_endY 20 = .ok (.imul, 1) := by decide +kernel
theorem dX12_endY_21 : decode cX12_endY 21 = .ok (.iload_n 2, 1) := by decide +kernel
theorem dX12_endY_22 : decode cX12_endY 22 = .ok (.iadd, 1) := by decide +kernel
theorem dX12_endY_23 : decode cX12_endY 23 = .ok (.iaload, 1) := by decide +kernel
theorem dX12_endY_24 : decode cX12_endY 24 = .ok (.iadd, 1) := by decide +kernel
theorem dX12_endY_25 : decode cX12_endY 25 = .ok (.iaload, 1) := by decide +kernel
theorem dX12_endY_26 : decode cX12_endY 26 = .ok (.ireturn, 1) := by decide +kernel
def fX12_endY (m : dM) (p0 : Nat) (p1 : Int32) (p2 : Int32) : Option Int32 := dg (dkg p0 13) (dg (dIx p1 (dL 451)) (dg (dIx ((10 * p1) + p2) (dL 455)) (dg (dIx ((10 * (m.1 451 (Int32.toNatClampNeg (p1)))) + (m.1 455 (Int32.toNatClampNeg ((10 * p1) + p2)))) (dL 450)) (some (m.1 450 (Int32.toNatClampNeg ((10 * (m.1 451 (Int32.toNatClampNeg (p1)))) + (m.1 455 (Int32.toNatClampNeg ((10 * p1) + p2))))))))))
set_option maxHeartbeats 4000000 in
set_option maxRecDepth 100000 in
theorem kX12_endY (l : Launch) (g : dG) {m : dM} {p0 : Nat} {p1 : Int32} {p2 : Int32} {r0 : Int32} (h : fX12_endY m p0 p1 p2 = some r0) : dMet l g yX12_endY wsX12_endY (dRm 0 0) [.ref (dad g p0), .int p1, .int p2] m (dQI g r0 m) := by
  refine dof (cc := cX12_endY) (maxL := 3) (ret := (some .int)) _ (plainFor_of_name (by decide)) rfl (Nat.le_of_ble_eq_true rfl) ?_
  intro p e s mth below meth c S hr hlk hE H ls hP hS hl
  have S : CallFix p mth c cX12_endY 3 s _ wsX12_endY RX12 := S
  have hl : lv_has ls 3 [(0, .ref (dad g p0)), (1, .int p1), (2, .int p2)] := hl
  obtain ⟨locs, hlocs⟩ : ∃ z : List Loc, z = [] := ⟨_, rfl⟩
  rw [← hlocs] at hS ⊢
  have in12 : ∀ w ∈ wsX120, w ∈ wsX12_endY := by decide +kernel
  unfold fX12_endY at h
  obtain ⟨k0, h⟩ := d_g h
  have k0 := d_k k0
  refine lv_aload_n S.1 S.2.1 dX12_endY_0 rfl (lv_at hl 0 rfl) ?_
  refine dgf12_7 S in12 hE hP k0 (S.2.2.2.2 (.fieldLink RX12 30 "DrillFieldModel" "setY" "[I") (List.mem_of_getElem? (i := 1) rfl)) dX12_endY_1 ?_
  refine lv_bipush (v := 10) S.1 S.2.1 dX12_endY_4 (by decide) ?_
  refine lv_aload_n S.1 S.2.1 dX12_endY_6 rfl (lv_at hl 0 rfl) ?_
  refine dgf12_9 S in12 hE hP k0 (S.2.2.2.2 (.fieldLink RX12 33 "DrillFieldModel" "setOf" "[I") (List.mem_of_getElem? (i := 2) rfl)) dX12_endY_7 ?_
  refine lv_iload_n S.1 S.2.1 dX12_endY_10 rfl (lv_at hl 1 rfl) ?_
  obtain ⟨hi, h⟩ := d_g h
  refine d_iald S hE hP dk_451 hi dX12_endY_11 ?_
  refine lv_imul S.1 S.2.1 dX12_endY_12 ?_
  refine lv_aload_n S.1 S.2.1 dX12_endY_13 rfl (lv_at hl 0 rfl) ?_
  refine dgf12_13 S in12 hE hP k0 (S.2.2.2.2 (.fieldLink RX12 45 "DrillFieldModel" "goes" "[I") (List.mem_of_getElem? (i := 3) rfl)) dX12_endY_14 ?_
  refine lv_bipush (v := 10) S.1 S.2.1 dX12_endY_17 (by decide) ?_
  refine lv_iload_n S.1 S.2.1 dX12_endY_19 rfl (lv_at hl 1 rfl) ?_
  refine lv_imul S.1 S.2.1 dX12_endY_20 ?_
  refine lv_iload_n S.1 S.2.1 dX12_endY_21 rfl (lv_at hl 2 rfl) ?_
  refine lv_iadd S.1 S.2.1 dX12_endY_22 ?_
  obtain ⟨hi, h⟩ := d_g h
  refine d_iald S hE hP dk_455 hi dX12_endY_23 ?_
  refine lv_iadd S.1 S.2.1 dX12_endY_24 ?_
  obtain ⟨hi, h⟩ := d_g h
  refine d_iald S hE hP dk_450 hi dX12_endY_25 ?_
  obtain rfl := Option.some.inj h
  exact dti S hr hlk hE hP hS rfl dX12_endY_26
set_option maxRecDepth 20000 in
theorem ggX12_beginY_X12_endY : GoodIn wsX12_beginY wsX12_endY := goodIn_r _ [5, 6, 7, 8, 9, 10, 11, 12, 13, 14, 15, 16, 17, 18, 19, 20, 21, 22, 23, 24, 25, 26, 27, 28, 29, 30, 31, 32, 33, 34, 35, 36] (by decide +kernel) (by decide +kernel)
set_option maxRecDepth 20000 in
theorem gX12_beginY_X12_endY : GoodIn wsX12_beginY (wsV RX12 115 RX12 yX12_endY wsX12_endY) := goodIn_app (goodIn_of _ (by decide +kernel)) ggX12_beginY_X12_endY
theorem dX12_beginY_0 : decode cX12_beginY 0 = .ok (.aload_n 0, 1) := by decide +kernel
theorem dX12_beginY_1 : decode cX12_beginY 1 = .ok (.iload_n 1, 1) := by decide +kernel
theorem dX12_beginY_2 : decode cX12_beginY 2 = .ok (.ifCond .ne 7, 3) := by decide +kernel
theorem dX12_beginY_5 : decode cX12_beginY 5 = .ok (.iconst 0, 1) := by decide +kernel
theorem dX12_beginY_6 : decode cX12_beginY 6 = .ok (.goto 6, 3) := by decide +kernel
theorem dX12_beginY_9 : decode cX12_beginY 9 = .ok (.iload_n 1, 1) := by decide +kernel
theorem dX12_beginY_10 : decode cX12_beginY 10 = .ok (.iconst 1, 1) := by decide +kernel
theorem dX12_beginY_11 : decode cX12_beginY 11 = .ok (.isub, 1) := by decide +kernel
theorem dX12_beginY_12 : decode cX12_beginY 12 = .ok (.iload_n 2, 1) := by decide +kernel
theorem dX12_beginY_13 : decode cX12_beginY 13 = .ok (.invokevirtual 115, 3) := by decide +kernel
theorem dX12_beginY_16 : decode cX12_beginY 16 = .ok (.ireturn, 1) := by decide +kernel
def fX12_beginY (m : dM) (p0 : Nat) (p1 : Int32) (p2 : Int32) : Option Int32 := dg (dkg p0 13) (if p1 = 0 then (fX12_endY m p0 0 p2).bind (fun v4 => some v4) else (fX12_endY m p0 (p1 - 1) p2).bind (fun v2 => some v2))
set_option maxHeartbeats 4000000 in
set_option maxRecDepth 100000 in
theorem kX12_beginY (l : Launch) (g : dG) {m : dM} {p0 : Nat} {p1 : Int32} {p2 : Int32} {r0 : Int32} (h : fX12_beginY m p0 p1 p2 = some r0) : dMet l g yX12_beginY wsX12_beginY (dRm 1 22) [.ref (dad g p0), .int p1, .int p2] m (dQI g r0 m) := by
  refine dof (cc := cX12_beginY) (maxL := 3) (ret := (some .int)) _ (plainFor_of_name (by decide)) rfl (Nat.le_of_ble_eq_true rfl) ?_
  intro p e s mth below meth c S hr hlk hE H ls hP hS hl
  have S : CallFix p mth c cX12_beginY 3 s _ wsX12_beginY RX12 := S
  have hl : lv_has ls 3 [(0, .ref (dad g p0)), (1, .int p1), (2, .int p2)] := hl
  obtain ⟨locs, hlocs⟩ : ∃ z : List Loc, z = [] := ⟨_, rfl⟩
  rw [← hlocs] at hS ⊢
  unfold fX12_beginY at h
  obtain ⟨k0, h⟩ := d_g h
  have k0 := d_k k0
  refine lv_aload_n S.1 S.2.1 dX12_beginY_0 rfl (lv_at hl 0 rfl) ?_
  refine lv_iload_n S.1 S.2.1 dX12_beginY_1 rfl (lv_at hl 1 rfl) ?_
  refine lv_if_ne (tgt := 9) S.1 S.2.1 dX12_beginY_2 (by decide) (fun cq => ?_) (fun cq => ?_)
  · have h := d_f cq h
    refine lv_iload_n S.1 S.2.1 dX12_beginY_9 rfl (lv_at hl 1 rfl) ?_
    refine lv_iconst (v := 1) S.1 S.2.1 dX12_beginY_10 (by decide) ?_
    refine lv_isub S.1 S.2.1 dX12_beginY_11 ?_
    refine lv_iload_n S.1 S.2.1 dX12_beginY_12 rfl (lv_at hl 2 rfl) ?_
    obtain ⟨v2, hc1, h⟩ := d_b h
    refine dri (va_runV (As := [.int (p1 - 1), .int p2]) (rest := []) S (kX12_endY l g hc1) (cwV 2 S.2.2.2.2 gX12_beginY_X12_endY rfl rfl rfl ynX12_endY ⟨Nat.le_of_ble_eq_true rfl, Nat.le_of_ble_eq_true rfl⟩) (dpV hE hP hS (ci := 12) rfl (dat13 k0)) rfl rfl hl.1 rfl (lv_room (Nat.le_of_ble_eq_true rfl)) dX12_beginY_13 ⟨Nat.le_of_ble_eq_true rfl, Nat.le_of_ble_eq_true rfl⟩) hS (fun H locs hP hS => ?_)
    obtain rfl := Option.some.inj h
    exact dti S hr hlk hE hP hS rfl dX12_beginY_16
  · have h := d_t cq h
    refine lv_iconst (v := 0) S.1 S.2.1 dX12_beginY_5 (by decide) ?_
    refine lv_goto (tgt := 12) S.1 S.2.1 dX12_beginY_6 (by decide) ?_
    refine lv_iload_n S.1 S.2.1 dX12_beginY_12 rfl (lv_at hl 2 rfl) ?_
    obtain ⟨v4, hc3, h⟩ := d_b h
    refine dri (va_runV (As := [.int 0, .int p2]) (rest := []) S (kX12_endY l g hc3) (cwV 2 S.2.2.2.2 gX12_beginY_X12_endY rfl rfl rfl ynX12_endY ⟨Nat.le_of_ble_eq_true rfl, Nat.le_of_ble_eq_true rfl⟩) (dpV hE hP hS (ci := 12) rfl (dat13 k0)) rfl rfl hl.1 rfl (lv_room (Nat.le_of_ble_eq_true rfl)) dX12_beginY_13 ⟨Nat.le_of_ble_eq_true rfl, Nat.le_of_ble_eq_true rfl⟩) hS (fun H locs hP hS => ?_)
    obtain rfl := Option.some.inj h
    exact dti S hr hlk hE hP hS rfl dX12_beginY_16
set_option maxRecDepth 20000 in
theorem ggX12_yAt_X12_beginY : GoodIn wsX12_yAt wsX12_beginY := goodIn_r _ [6, 7, 8, 9, 5, 10, 11, 12, 13, 17, 18, 19, 20, 21, 22, 23, 24, 25, 26, 27, 28, 29, 30, 31, 32, 33, 34, 35, 36, 37, 38, 39, 40, 41, 42, 43, 44] (by decide +kernel) (by decide +kernel)
set_option maxRecDepth 20000 in
theorem gX12_yAt_X12_beginY : GoodIn wsX12_yAt (wsV RX12 121 RX12 yX12_beginY wsX12_beginY) := goodIn_app (goodIn_of _ (by decide +kernel)) ggX12_yAt_X12_beginY
set_option maxRecDepth 20000 in
theorem ggX12_yAt_X12_endY : GoodIn wsX12_yAt wsX12_endY := goodIn_r _ [10, 11, 12, 13, 17, 18, 19, 20, 21, 22, 23, 24, 25, 26, 27, 28, 29, 30, 31, 32, 33, 34, 35, 36, 37, 38, 39, 40, 41, 42, 43, 44] (by decide +kernel) (by decide +kernel)
set_option maxRecDepth 20000 in
theorem gX12_yAt_X12_endY : GoodIn wsX12_yAt (wsV RX12 115 RX12 yX12_endY wsX12_endY) := goodIn_app (goodIn_of _ (by decide +kernel)) ggX12_yAt_X12_endY
set_option maxRecDepth 20000 in
theorem ggX12_yAt_X12_down : GoodIn wsX12_yAt wsX12_down := goodIn_r _ [16] (by decide +kernel) (by decide +kernel)
set_option maxRecDepth 20000 in
theorem gX12_yAt_X12_down : GoodIn wsX12_yAt (va_wsS RX12 96 yX12_down wsX12_down) := goodIn_app (goodIn_of _ (by decide +kernel)) ggX12_yAt_X12_down
theorem dX12_yAt_0 : decode cX12_yAt 0 = .ok (.aload_n 0, 1) := by decide +kernel
theorem dX12_yAt_1 : decode cX12_yAt 1 = .ok (.iload_n 1, 1) := by decide +kernel
theorem dX12_yAt_2 : decode cX12_yAt 2 = .ok (.iload_n 3, 1) := by decide +kernel
theorem dX12_yAt_3 : decode cX12_yAt 3 = .ok (.invokevirtual 121, 3) := by decide +kernel
theorem dX12_yAt_6 : decode cX12_yAt 6 = .ok (.istore 4, 2) := by decide +kernel
theorem dX12_yAt_8 : decode cX12_yAt 8 = .ok (.iload 4, 2) := by decide +kernel
theorem dX12_yAt_10 : decode cX12_yAt 10 = .ok (.iload_n 2, 1) := by decide +kernel
theorem dX12_yAt_11 : decode cX12_yAt 11 = .ok (.aload_n 0, 1) := by decide +kernel
theorem dX12_yAt_12 : decode cX12_yAt 12 = .ok (.iload_n 1, 1) := by decide +kernel
theorem dX12_yAt_13 : decode cX12_yAt 13 = .ok (.iload_n 3, 1) := by decide +kernel
theorem dX12_yAt_14 : decode cX12_yAt 14 = .ok (.invokevirtual 115, 3) := by decide +kernel
theorem dX12_yAt_17 : decode cX12_yAt 17 = .ok (.iload 4, 2) := by decide +kernel
theorem dX12_yAt_19 : decode cX12_yAt 19 = .ok (.isub, 1) := by decide +kernel
theorem dX12_yAt_20 : decode cX12_yAt 20 = .ok (.imul, 1) := by decide +kernel
theorem dX12_yAt_21 : decode cX12_yAt 21 = .ok (.aload_n 0, 1) := by decide +kernel
theorem dX12_yAt_22 : decode cX12_yAt 22 = .ok (.getfield 36, 3) := by decide +kernel
theorem dX12_yAt_25 : decode cX12_yAt 25 = .ok (.iload_n 1, 1) := by decide +kernel
theorem dX12_yAt_26 : decode cX12_yAt 26 = .ok (.iaload, 1) := by decide +kernel
theorem dX12_yAt_27 : decode cX12_yAt 27 = .ok (.invokestatic 96, 3) := by decide +kernel
theorem dX12_yAt_30 : decode cX12_yAt 30 = .ok (.iadd, 1) := by decide +kernel
theorem dX12_yAt_31 : decode cX12_yAt 31 = .ok (.ireturn, 1) := by decide +kernel
def fX12_yAt (m : dM) (p0 : Nat) (p1 : Int32) (p2 : Int32) (p3 : Int32) : Option Int32 := dg (dkg p0 13) ((fX12_beginY m p0 p1 p3).bind (fun v2 => (fX12_endY m p0 p1 p3).bind (fun v4 => dg (dIx p1 (dL 452)) ((fX12_down m (p2 * (v4 - v2)) (m.1 452 (Int32.toNatClampNeg (p1)))).bind (fun v6 => some (v2 + v6))))))
set_option maxHeartbeats 4000000 in
set_option maxRecDepth 100000 in
theorem kX12_yAt (l : Launch) (g : dG) {m : dM} {p0 : Nat} {p1 : Int32} {p2 : Int32} {p3 : Int32} {r0 : Int32} (h : fX12_yAt m p0 p1 p2 p3 = some r0) : dMet l g yX12_yAt wsX12_yAt (dRm 2 44) [.ref (dad g p0), .int p1, .int p2, .int p3] m (dQI g r0 m) := by
  refine dof (cc := cX12_yAt) (maxL := 5) (ret := (some .int)) _ (plainFor_of_name (by decide)) rfl (Nat.le_of_ble_eq_true rfl) ?_
  intro p e s mth below meth c S hr hlk hE H ls hP hS hl
  have S : CallFix p mth c cX12_yAt 5 s _ wsX12_yAt RX12 := S
  have hl : lv_has ls 5 [(0, .ref (dad g p0)), (1, .int p1), (2, .int p2), (3, .int p3)] := hl
  obtain ⟨locs, hlocs⟩ : ∃ z : List Loc, z = [] := ⟨_, rfl⟩
  rw [← hlocs] at hS ⊢
  have in12 : ∀ w ∈ wsX120, w ∈ wsX12_yAt := by decide +kernel
  unfold fX12_yAt at h
  obtain ⟨k0, h⟩ := d_g h
  have k0 := d_k k0
  refine lv_aload_n S.1 S.2.1 dX12_yAt_0 rfl (lv_at hl 0 rfl) ?_
  refine lv_iload_n S.1 S.2.1 dX12_yAt_1 rfl (lv_at hl 1 rfl) ?_
  refine lv_iload_n S.1 S.2.1 dX12_yAt_2 rfl (lv_at hl 3 rfl) ?_
  obtain ⟨v2, hc1, h⟩ := d_b h
  refine dri (va_runV (As := [.int p1, .int p3]) (rest := []) S (kX12_beginY l g hc1) (cwV 2 S.2.2.2.2 gX12_yAt_X12_beginY rfl rfl rfl ynX12_beginY ⟨Nat.le_of_ble_eq_true rfl, Nat.le_of_ble_eq_true rfl⟩) (dpV hE hP hS (ci := 12) rfl (dat13 k0)) rfl rfl hl.1 rfl (lv_room (Nat.le_of_ble_eq_true rfl)) dX12_yAt_3 ⟨Nat.le_of_ble_eq_true rfl, Nat.le_of_ble_eq_true rfl⟩) hS (fun H locs hP hS => ?_)
  refine lv_istore (lv' := [(4, .int v2), (0, .ref (dad g p0)), (1, .int p1), (2, .int p2), (3, .int p3)]) S.1 S.2.1 dX12_yAt_6 hl (by decide) rfl (fun ls hl => ?_)
  refine lv_iload S.1 S.2.1 dX12_yAt_8 (lv_at hl 0 rfl) ?_
  refine lv_iload_n S.1 S.2.1 dX12_yAt_10 rfl (lv_at hl 3 rfl) ?_
  refine lv_aload_n S.1 S.2.1 dX12_yAt_11 rfl (lv_at hl 1 rfl) ?_
  refine lv_iload_n S.1 S.2.1 dX12_yAt_12 rfl (lv_at hl 2 rfl) ?_
  refine lv_iload_n S.1 S.2.1 dX12_yAt_13 rfl (lv_at hl 4 rfl) ?_
  obtain ⟨v4, hc3, h⟩ := d_b h
  refine dri (va_runV (As := [.int p1, .int p3]) (rest := [.int p2, .int v2]) S (kX12_endY l g hc3) (cwV 2 S.2.2.2.2 gX12_yAt_X12_endY rfl rfl rfl ynX12_endY ⟨Nat.le_of_ble_eq_true rfl, Nat.le_of_ble_eq_true rfl⟩) (dpV hE hP hS (ci := 12) rfl (dat13 k0)) rfl rfl hl.1 rfl (lv_room (Nat.le_of_ble_eq_true rfl)) dX12_yAt_14 ⟨Nat.le_of_ble_eq_true rfl, Nat.le_of_ble_eq_true rfl⟩) hS (fun H locs hP hS => ?_)
  refine lv_iload S.1 S.2.1 dX12_yAt_17 (lv_at hl 0 rfl) ?_
  refine lv_isub S.1 S.2.1 dX12_yAt_19 ?_
  refine lv_imul S.1 S.2.1 dX12_yAt_20 ?_
  refine lv_aload_n S.1 S.2.1 dX12_yAt_21 rfl (lv_at hl 1 rfl) ?_
  refine dgf12_10 S in12 hE hP k0 (S.2.2.2.2 (.fieldLink RX12 36 "DrillFieldModel" "counts" "[I") (List.mem_of_getElem? (i := 1) rfl)) dX12_yAt_22 ?_
  refine lv_iload_n S.1 S.2.1 dX12_yAt_25 rfl (lv_at hl 2 rfl) ?_
  obtain ⟨hi, h⟩ := d_g h
  refine d_iald S hE hP dk_452 hi dX12_yAt_26 ?_
  obtain ⟨v6, hc5, h⟩ := d_b h
  refine dri (va_runS (As := [.int (p2 * (v4 - v2)), .int (m.1 452 (Int32.toNatClampNeg (p1)))]) (rest := [.int v2]) S (kX12_down l g hc5) (va_cwS 2 S.2.2.2.2 gX12_yAt_X12_down rfl rfl rfl ynX12_down ⟨Nat.le_of_ble_eq_true rfl, Nat.le_of_ble_eq_true rfl⟩) (dpS hE hP hS) rfl rfl hl.1 rfl (lv_room (Nat.le_of_ble_eq_true rfl)) dX12_yAt_27 ⟨Nat.le_of_ble_eq_true rfl, Nat.le_of_ble_eq_true rfl⟩) hS (fun H locs hP hS => ?_)
  refine lv_iadd S.1 S.2.1 dX12_yAt_30 ?_
  obtain rfl := Option.some.inj h
  exact dti S hr hlk hE hP hS rfl dX12_yAt_31
theorem dX12_sideOf_0 : decode cX12_sideOf 0 = .ok (.iload_n 2, 1) := by decide +kernel
theorem dX12_sideOf_1 : decode cX12_sideOf 1 = .ok (.iload_n 0, 1) := by decide +kernel
theorem dX12_sideOf_2 : decode cX12_sideOf 2 = .ok (.isub, 1) := by decide +kernel
theorem dX12_sideOf_3 : decode cX12_sideOf 3 = .ok (.i2l, 1) := by decide +kernel
theorem dX12_sideOf_4 : decode cX12_sideOf 4 = .ok (.iload 5, 2) := by decide +kernel
theorem dX12_sideOf_6 : decode cX12_sideOf 6 = .ok (.iload_n 1, 1) := by decide +kernel
theorem dX12_sideOf_7 : decode cX12_sideOf 7 = .ok (.isub, 1) := by decide +kernel
theorem dX12_sideOf_8 : decode cX12_sideOf 8 = .ok (.i2l, 1) := by decide +kernel
theorem dX12_sideOf_9 : decode cX12_sideOf 9 = .ok (.lmul, 1) := by decide +kernel
theorem dX12_sideOf_10 : decode cX12_sideOf 10 = .ok (.iload_n 3, 1) := by decide +kernel
theorem dX12_sideOf_11 : decode cX12_sideOf 11 = .ok (.iload_n 1, 1) := by decide +kernel
theorem dX12_sideOf_12 : decode cX12_sideOf 12 = .ok (.isub, 1) := by decide +kernel
theorem dX12_sideOf_13 : decode cX12_sideOf 13 = .ok (.i2l, 1) := by decide +kernel
theorem dX12_sideOf_14 : decode cX12_sideOf 14 = .ok (.iload 4, 2) := by decide +kernel
theorem dX12_sideOf_16 : decode cX12_sideOf 16 = .ok (.iload_n 0, 1) := by decide +kernel
theorem dX12_sideOf_17 : decode cX12_sideOf 17 = .ok (.isub, 1) := by decide +kernel
theorem dX12_sideOf_18 : decode cX12_sideOf 18 = .ok (.i2l, 1) := by decide +kernel
theorem dX12_sideOf_19 : decode cX12_sideOf 19 = .ok (.lmul, 1) := by decide +kernel
theorem dX12_sideOf_20 : decode cX12_sideOf 20 = .ok (.lsub, 1) := by decide +kernel
theorem dX12_sideOf_21 : decode cX12_sideOf 21 = .ok (.lstore 6, 2) := by decide +kernel
theorem dX12_sideOf_23 : decode cX12_sideOf 23 = .ok (.lload 6, 2) := by decide +kernel
theorem dX12_sideOf_25 : decode cX12_sideOf 25 = .ok (.lconst 0, 1) := by decide +kernel
theorem dX12_sideOf_26 : decode cX12_sideOf 26 = .ok (.lcmp, 1) := by decide +kernel
theorem dX12_sideOf_27 : decode cX12_sideOf 27 = .ok (.ifCond .le 7, 3) := by decide +kernel
theorem dX12_sideOf_30 : decode cX12_sideOf 30 = .ok (.lconst 1, 1) := by decide +kernel
theorem dX12_sideOf_31 : decode cX12_sideOf 31 = .ok (.goto 17, 3) := by decide +kernel
theorem dX12_sideOf_34 : decode cX12_sideOf 34 = .ok (.lload 6, 2) := by decide +kernel
theorem dX12_sideOf_36 : decode cX12_sideOf 36 = .ok (.lconst 0, 1) := by decide +kernel
theorem dX12_sideOf_37 : decode cX12_sideOf 37 = .ok (.lcmp, 1) := by decide +kernel
theorem dX12_sideOf_38 : decode cX12_sideOf 38 = .ok (.ifCond .ge 9, 3) := by decide +kernel
theorem dX12_sideOf_41 : decode cX12_sideOf 41 = .ok (.ldc2_w 162, 3) := by decide +kernel
theorem dX12_sideOf_44 : decode cX12_sideOf 44 = .ok (.goto 4, 3) := by decide +kernel
theorem dX12_sideOf_47 : decode cX12_sideOf 47 = .ok (.lconst 0, 1) := by decide +kernel
theorem dX12_sideOf_48 : decode cX12_sideOf 48 = .ok (.lreturn, 1) := by decide +kernel
def fX12_sideOf (m : dM) (p0 : Int32) (p1 : Int32) (p2 : Int32) (p3 : Int32) (p4 : Int32) (p5 : Int32) : Option Int64 := dlet (((Int32.toInt64 (p2 - p0)) * (Int32.toInt64 (p5 - p1))) - ((Int32.toInt64 (p3 - p1)) * (Int32.toInt64 (p4 - p0))) : Int64) (fun v1 => if (lg_cmp v1 0) ≤ 0 then if 0 ≤ (lg_cmp v1 0) then some 0 else some (-1) else some 1)
set_option maxHeartbeats 4000000 in
set_option maxRecDepth 100000 in
theorem kX12_sideOf (l : Launch) (g : dG) {m : dM} {p0 : Int32} {p1 : Int32} {p2 : Int32} {p3 : Int32} {p4 : Int32} {p5 : Int32} {r0 : Int64} (h : fX12_sideOf m p0 p1 p2 p3 p4 p5 = some r0) : dMet l g yX12_sideOf wsX12_sideOf (dRm 0 0) [.int p0, .int p1, .int p2, .int p3, .int p4, .int p5] m (dQJ g r0 m) := by
  refine dof (cc := cX12_sideOf) (maxL := 8) (ret := (some .long)) _ (plainFor_of_name (by decide)) rfl (Nat.le_of_ble_eq_true rfl) ?_
  intro p e s mth below meth c S hr hlk hE H ls hP hS hl
  have S : CallFix p mth c cX12_sideOf 8 s _ wsX12_sideOf RX12 := S
  have hl : lv_has ls 8 [(0, .int p0), (1, .int p1), (2, .int p2), (3, .int p3), (4, .int p4), (5, .int p5)] := hl
  obtain ⟨locs, hlocs⟩ : ∃ z : List Loc, z = [] := ⟨_, rfl⟩
  rw [← hlocs] at hS ⊢
  unfold fX12_sideOf at h
  refine lv_iload_n S.1 S.2.1 dX12_sideOf_0 rfl (lv_at hl 2 rfl) ?_
  refine lv_iload_n S.1 S.2.1 dX12_sideOf_1 rfl (lv_at hl 0 rfl) ?_
  refine lv_isub S.1 S.2.1 dX12_sideOf_2 ?_
  refine lv_i2l S.1 S.2.1 dX12_sideOf_3 rfl ?_
  refine lv_iload S.1 S.2.1 dX12_sideOf_4 (lv_at hl 5 rfl) ?_
  refine lv_iload_n S.1 S.2.1 dX12_sideOf_6 rfl (lv_at hl 1 rfl) ?_
  refine lv_isub S.1 S.2.1 dX12_sideOf_7 ?_
  refine lv_i2l S.1 S.2.1 dX12_sideOf_8 rfl ?_
  refine lv_lmul S.1 S.2.1 dX12_sideOf_9 ?_
  refine lv_iload_n S.1 S.2.1 dX12_sideOf_10 rfl (lv_at hl 3 rfl) ?_
  refine lv_iload_n S.1 S.2.1 dX12_sideOf_11 rfl (lv_at hl 1 rfl) ?_
  refine lv_isub S.1 S.2.1 dX12_sideOf_12 ?_
  refine lv_i2l S.1 S.2.1 dX12_sideOf_13 rfl ?_
  refine lv_iload S.1 S.2.1 dX12_sideOf_14 (lv_at hl 4 rfl) ?_
  refine lv_iload_n S.1 S.2.1 dX12_sideOf_16 rfl (lv_at hl 0 rfl) ?_
  refine lv_isub S.1 S.2.1 dX12_sideOf_17 ?_
  refine lv_i2l S.1 S.2.1 dX12_sideOf_18 rfl ?_
  refine lv_lmul S.1 S.2.1 dX12_sideOf_19 ?_
  refine lv_lsub S.1 S.2.1 dX12_sideOf_20 ?_
  refine lv_topl (fun v1 ev1 => ?_)
  have h := d_let ev1 h
  refine lv_lstore (lv' := [(6, .long v1), (0, .int p0), (1, .int p1), (2, .int p2), (3, .int p3), (4, .int p4), (5, .int p5)]) S.1 S.2.1 dX12_sideOf_21 hl (by decide) rfl (fun ls hl => ?_)
  refine lv_lload S.1 S.2.1 dX12_sideOf_23 (lv_at hl 0 rfl) ?_
  refine lv_lconst (v := 0) S.1 S.2.1 dX12_sideOf_25 (by decide) ?_
  refine W.lcmp S.1 S.2.1 dX12_sideOf_26 ?_
  refine lv_if_le (tgt := 34) S.1 S.2.1 dX12_sideOf_27 (by decide) (fun cq => ?_) (fun cq => ?_)
  · have h := d_t cq h
    refine lv_lload S.1 S.2.1 dX12_sideOf_34 (lv_at hl 0 rfl) ?_
    refine lv_lconst (v := 0) S.1 S.2.1 dX12_sideOf_36 (by decide) ?_
    refine W.lcmp S.1 S.2.1 dX12_sideOf_37 ?_
    refine lv_if_ge (tgt := 47) S.1 S.2.1 dX12_sideOf_38 (by decide) (fun cq => ?_) (fun cq => ?_)
    · have h := d_t cq h
      refine lv_lconst (v := 0) S.1 S.2.1 dX12_sideOf_47 (by decide) ?_
      obtain rfl := Option.some.inj h
      exact dtj S hr hlk hE hP hS dX12_sideOf_48
    · have h := d_f cq h
      refine lv_ldc2 (v := (-1)) S.1 S.2.1 S.2.2.2.1 (S.2.2.2.2 (.constantLong RX12 162 (-1)) (List.mem_of_getElem? (i := 1) rfl)) dX12_sideOf_41 ?_
      refine lv_goto (tgt := 48) S.1 S.2.1 dX12_sideOf_44 (by decide) ?_
      obtain rfl := Option.some.inj h
      exact dtj S hr hlk hE hP hS dX12_sideOf_48
  · have h := d_f cq h
    refine lv_lconst (v := 1) S.1 S.2.1 dX12_sideOf_30 (by decide) ?_
    refine lv_goto (tgt := 48) S.1 S.2.1 dX12_sideOf_31 (by decide) ?_
    obtain rfl := Option.some.inj h
    exact dtj S hr hlk hE hP hS dX12_sideOf_48
set_option maxRecDepth 20000 in
theorem ggX12_areCrossing_X12_xAt : GoodIn wsX12_areCrossing wsX12_xAt := goodIn_r _ [5, 6, 7, 8, 9, 4, 10, 11, 12, 13, 14, 15, 16, 17, 18, 19, 20, 38, 39, 40, 41, 42, 43, 44, 45, 46, 47, 48, 49, 50, 51, 52, 53, 54, 55, 56, 57, 58, 59, 60, 61, 62, 63, 64, 65] (by decide +kernel) (by decide +kernel)
set_option maxRecDepth 20000 in
theorem gX12_areCrossing_X12_xAt : GoodIn wsX12_areCrossing (wsV RX12 155 RX12 yX12_xAt wsX12_xAt) := goodIn_app (goodIn_of _ (by decide +kernel)) ggX12_areCrossing_X12_xAt
set_option maxRecDepth 20000 in
theorem ggX12_areCrossing_X12_yAt : GoodIn wsX12_areCrossing wsX12_yAt := goodIn_r _ [24, 6, 25, 26, 27, 4, 28, 29, 30, 31, 32, 33, 16, 17, 18, 19, 20, 38, 39, 40, 41, 42, 43, 44, 45, 46, 47, 48, 49, 50, 51, 52, 53, 54, 55, 56, 57, 58, 59, 60, 61, 62, 63, 64, 65] (by decide +kernel) (by decide +kernel)
set_option maxRecDepth 20000 in
theorem gX12_areCrossing_X12_yAt : GoodIn wsX12_areCrossing (wsV RX12 159 RX12 yX12_yAt wsX12_yAt) := goodIn_app (goodIn_of _ (by decide +kernel)) ggX12_areCrossing_X12_yAt
set_option maxRecDepth 20000 in
theorem ggX12_areCrossing_X12_sideOf : GoodIn wsX12_areCrossing wsX12_sideOf := goodIn_r _ [36, 37] (by decide +kernel) (by decide +kernel)
set_option maxRecDepth 20000 in
theorem gX12_areCrossing_X12_sideOf : GoodIn wsX12_areCrossing (va_wsS RX12 164 yX12_sideOf wsX12_sideOf) := goodIn_app (goodIn_of _ (by decide +kernel)) ggX12_areCrossing_X12_sideOf
theorem dX12_areCrossing_0 : decode cX12_areCrossing 0 = .ok (.aload_n 0, 1) := by decide +kernel
theorem dX12_areCrossing_1 : decode cX12_areCrossing 1 = .ok (.iload_n 1, 1) := by decide +kernel
theorem dX12_areCrossing_2 : decode cX12_areCrossing 2 = .ok (.iload_n 2, 1) := by decide +kernel
theorem dX12_areCrossing_3 : decode cX12_areCrossing 3 = .ok (.iconst 1, 1) := by decide +kernel
theorem dX12_areCrossing_4 : decode cX12_areCrossing 4 = .ok (.isub, 1) := by decide +kernel
theorem dX12_areCrossing_5 : decode cX12_areCrossing 5 = .ok (.iload_n 3, 1) := by decide +kernel
theorem dX12_areCrossing_6 : decode cX12_areCrossing 6 = .ok (.invokevirtual 155, 3) := by decide +kernel
theorem dX12_areCrossing_9 : decode cX12_areCrossing 9 = .ok (.istore 5, 2) := by decide +kernel
theorem dX12_areCrossing_11 : decode cX12_areCrossing 11 = .ok (.aload_n 0, 1) := by decide +kernel
theorem dX12_areCrossing_12 : decode cX12_areCrossing 12 = .ok (.iload_n 1, 1) := by decide +kernel
theorem dX12_areCrossing_13 : decode cX12_areCrossing 13 = .ok (.iload_n 2, 1) := by decide +kernel
theorem dX12_areCrossing_14 : decode cX12_areCrossing 14 = .ok (.iconst 1, 1) := by decide +kernel
theorem dX12_areCrossing_15 : decode cX12_areCrossing 15 = .ok (.isub, 1) := by decide +kernel
theorem dX12_areCrossing_16 : decode cX12_areCrossing 16 = .ok (.iload_n 3, 1) := by decide +kernel
theorem dX12_areCrossing_17 : decode cX12_areCrossing 17 = .ok (.invokevirtual 159, 3) := by decide +kernel
theorem dX12_areCrossing_20 : decode cX12_areCrossing 20 = .ok (.istore 6, 2) := by decide +kernel
theorem dX12_areCrossing_22 : decode cX12_areCrossing 22 = .ok (.aload_n 0, 1) := by decide +kernel
theorem dX12_areCrossing_23 : decode cX12_areCrossing 23 = .ok (.iload_n 1, 1) := by decide +kernel
theorem dX12_areCrossing_24 : decode cX12_areCrossing 24 = .ok (.iload_n 2, 1) := by decide +kernel
theorem dX12_areCrossing_25 : decode cX12_areCrossing 25 = .ok (.iload_n 3, 1) := by decide +kernel
theorem dX12_areCrossing_26 : decode cX12_areCrossing 26 = .ok (.invokevirtual 155, 3) := by decide +kernel
theorem dX12_areCrossing_29 : decode cX12_areCrossing 29 = .ok (.istore 7, 2) := by decide +kernel
theorem dX12_areCrossing_31 : decode cX12_areCrossing 31 = .ok (.aload_n 0, 1) := by decide +kernel
theorem dX12_areCrossing_32 : decode cX12_areCrossing 32 = .ok (.iload_n 1, 1) := by decide +kernel
theorem dX12_areCrossing_33 : decode cX12_areCrossing 33 = .ok (.iload_n 2, 1) := by decide +kernel
theorem dX12_areCrossing_34 : decode cX12_areCrossing 34 = .ok (.iload_n 3, 1) := by decide +kernel
theorem dX12_areCrossing_35 : decode cX12_areCrossing 35 = .ok (.invokevirtual 159, 3) := by decide +kernel
theorem dX12_areCrossing_38 : decode cX12_areCrossing 38 = .ok (.istore 8, 2) := by decide +kernel
theorem dX12_areCrossing_40 : decode cX12_areCrossing 40 = .ok (.aload_n 0, 1) := by decide +kernel
theorem dX12_areCrossing_41 : decode cX12_areCrossing 41 = .ok (.iload_n 1, 1) := by decide +kernel
theorem dX12_areCrossing_42 : decode cX12_areCrossing 42 = .ok (.iload_n 2, 1) := by decide +kernel
theorem dX12_areCrossing_43 : decode cX12_areCrossing 43 = .ok (.iconst 1, 1) := by decide +kernel
theorem dX12_areCrossing_44 : decode cX12_areCrossing 44 = .ok (.isub, 1) := by decide +kernel
theorem dX12_areCrossing_45 : decode cX12_areCrossing 45 = .ok (.iload 4, 2) := by decide +kernel
theorem dX12_areCrossing_47 : decode cX12_areCrossing 47 = .ok (.invokevirtual 155, 3) := by decide +kernel
theorem dX12_areCrossing_50 : decode cX12_areCrossing 50 = .ok (.istore 9, 2) := by decide +kernel
theorem dX12_areCrossing_52 : decode cX12_areCrossing 52 = .ok (.aload_n 0, 1) := by decide +kernel
theorem dX12_areCrossing_53 : decode cX12_areCrossing 53 = .ok (.iload_n 1, 1) := by decide +kernel
theorem dX12_areCrossing_54 : decode cX12_areCrossing 54 = .ok (.iload_n 2, 1) := by decide +kernel
theorem dX12_areCrossing_55 : decode cX12_areCrossing 55 = .ok (.iconst 1, 1) := by decide +kernel
theorem dX12_areCrossing_56 : decode cX12_areCrossing 56 = .ok (.isub, 1) := by decide +kernel
theorem dX12_areCrossing_57 : decode cX12_areCrossing 57 = .ok (.iload 4, 2) := by decide +kernel
theorem dX12_areCrossing_59 : decode cX12_areCrossing 59 = .ok (.invokevirtual 159, 3) := by decide +kernel
theorem dX12_areCrossing_62 : decode cX12_areCrossing 62 = .ok (.istore 10, 2) := by decide +kernel
theorem dX12_areCrossing_64 : decode cX12_areCrossing 64 = .ok (.aload_n 0, 1) := by decide +kernel
theorem dX12_areCrossing_65 : decode cX12_areCrossing 65 = .ok (.iload_n 1, 1) := by decide +kernel
theorem dX12_areCrossing_66 : decode cX12_areCrossing 66 = .ok (.iload_n 2, 1) := by decide +kernel
theorem dX12_areCrossing_67 : decode cX12_areCrossing 67 = .ok (.iload 4, 2) := by decide +kernel
theorem dX12_areCrossing_69 : decode cX12_areCrossing 69 = .ok (.invokevirtual 155, 3) := by decide +kernel
theorem dX12_areCrossing_72 : decode cX12_areCrossing 72 = .ok (.istore 11, 2) := by decide +kernel
theorem dX12_areCrossing_74 : decode cX12_areCrossing 74 = .ok (.aload_n 0, 1) := by decide +kernel
theorem dX12_areCrossing_75 : decode cX12_areCrossing 75 = .ok (.iload_n 1, 1) := by decide +kernel
theorem dX12_areCrossing_76 : decode cX12_areCrossing 76 = .ok (.iload_n 2, 1) := by decide +kernel
theorem dX12_areCrossing_77 : decode cX12_areCrossing 77 = .ok (.iload 4, 2) := by decide +kernel
theorem dX12_areCrossing_79 : decode cX12_areCrossing 79 = .ok (.invokevirtual 159, 3) := by decide +kernel
theorem dX12_areCrossing_82 : decode cX12_areCrossing 82 = .ok (.istore 12, 2) := by decide +kernel
theorem dX12_areCrossing_84 : decode cX12_areCrossing 84 = .ok (.iload 5, 2) := by decide +kernel
theorem dX12_areCrossing_86 : decode cX12_areCrossing 86 = .ok (.iload 6, 2) := by decide +kernel
theorem dX12_areCrossing_88 : decode cX12_areCrossing 88 = .ok (.iload 7, 2) := by decide +kernel
theorem dX12_areCrossing_90 : decode cX12_areCrossing 90 = .ok (.iload 8, 2) := by decide +kernel
theorem dX12_areCrossing_92 : decode cX12_areCrossing 92 = .ok (.iload 9, 2) := by decide +kernel
theorem dX12_areCrossing_94 : decode cX12_areCrossing 94 = .ok (.iload 10, 2) := by decide +kernel
theorem dX12_areCrossing_96 : decode cX12_areCrossing 96 = .ok (.invokestatic 164, 3) := by decide +kernel
theorem dX12_areCrossing_99 : decode cX12_areCrossing 99 = .ok (.iload 5, 2) := by decide +kernel
theorem dX12_areCrossing_101 : decode cX12_areCrossing 101 = .ok (.iload 6, 2) := by decide +kernel
theorem dX12_areCrossing_103 : decode cX12_areCrossing 103 = .ok (.iload 7, 2) := by decide +kernel
theorem dX12_areCrossing_105 : decode cX12_areCrossing 105 = .ok (.iload 8, 2) := by decide +kernel
theorem dX12_areCrossing_107 : decode cX12_areCrossing 107 = .ok (.iload 11, 2) := by decide +kernel
theorem dX12_areCrossing_109 : decode cX12_areCrossing 109 = .ok (.iload 12, 2) := by decide +kernel
theorem dX12_areCrossing_111 : decode cX12_areCrossing 111 = .ok (.invokestatic 164, 3) := by decide +kernel
theorem dX12_areCrossing_114 : decode cX12_areCrossing 114 = .ok (.lmul, 1) := by decide +kernel
theorem dX12_areCrossing_115 : decode cX12_areCrossing 115 = .ok (.lconst 0, 1) := by decide +kernel
theorem dX12_areCrossing_116 : decode cX12_areCrossing 116 = .ok (.lcmp, 1) := by decide +kernel
theorem dX12_areCrossing_117 : decode cX12_areCrossing 117 = .ok (.ifCond .ge 43, 3) := by decide +kernel
theorem dX12_areCrossing_120 : decode cX12_areCrossing 120 = .ok (.iload 9, 2) := by decide +kernel
theorem dX12_areCrossing_122 : decode cX12_areCrossing 122 = .ok (.iload 10, 2) := by decide +kernel
theorem dX12_areCrossing_124 : decode cX12_areCrossing 124 = .ok (.iload 11, 2) := by decide +kernel
theorem dX12_areCrossing_126 : decode cX12_areCrossing 126 = .ok (.iload 12, 2) := by decide +kernel
theorem dX12_areCrossing_128 : decode cX12_areCrossing 128 = .ok (.iload 5, 2) := by decide +kernel
theorem dX12_areCrossing_130 : decode cX12_areCrossing 130 = .ok (.iload 6, 2) := by decide +kernel
theorem dX12_areCrossing_132 : decode cX12_areCrossing 132 = .ok (.invokestatic 164, 3) := by decide +kernel
theorem dX12_areCrossing_135 : decode cX12_areCrossing 135 = .ok (.iload 9, 2) := by decide +kernel
theorem dX12_areCrossing_137 : decode cX12_areCrossing 137 = .ok (.iload 10, 2) := by decide +kernel
theorem dX12_areCrossing_139 : decode cX12_areCrossing 139 = .ok (.iload 11, 2) := by decide +kernel
theorem dX12_areCrossing_141 : decode cX12_areCrossing 141 = .ok (.iload 12, 2) := by decide +kernel
theorem dX12_areCrossing_143 : decode cX12_areCrossing 143 = .ok (.iload 7, 2) := by decide +kernel
theorem dX12_areCrossing_145 : decode cX12_areCrossing 145 = .ok (.iload 8, 2) := by decide +kernel
theorem dX12_areCrossing_147 : decode cX12_areCrossing 147 = .ok (.invokestatic 164, 3) := by decide +kernel
theorem dX12_areCrossing_150 : decode cX12_areCrossing 150 = .ok (.lmul, 1) := by decide +kernel
theorem dX12_areCrossing_151 : decode cX12_areCrossing 151 = .ok (.lconst 0, 1) := by decide +kernel
theorem dX12_areCrossing_152 : decode cX12_areCrossing 152 = .ok (.lcmp, 1) := by decide +kernel
theorem dX12_areCrossing_153 : decode cX12_areCrossing 153 = .ok (.ifCond .ge 7, 3) := by decide +kernel
theorem dX12_areCrossing_156 : decode cX12_areCrossing 156 = .ok (.iconst 1, 1) := by decide +kernel
theorem dX12_areCrossing_157 : decode cX12_areCrossing 157 = .ok (.goto 4, 3) := by decide +kernel
theorem dX12_areCrossing_160 : decode cX12_areCrossing 160 = .ok (.iconst 0, 1) := by decide +kernel
theorem dX12_areCrossing_161 : decode cX12_areCrossing 161 = .ok (.ireturn, 1) := by decide +kernel
def fX12_areCrossing (m : dM) (p0 : Nat) (p1 : Int32) (p2 : Int32) (p3 : Int32) (p4 : Int32) : Option Int32 := dg (dkg p0 13) ((fX12_xAt m p0 p1 (p2 - 1) p3).bind (fun v2 => (fX12_yAt m p0 p1 (p2 - 1) p3).bind (fun v4 => (fX12_xAt m p0 p1 p2 p3).bind (fun v6 => (fX12_yAt m p0 p1 p2 p3).bind (fun v8 => (fX12_xAt m p0 p1 (p2 - 1) p4).bind (fun v10 => (fX12_yAt m p0 p1 (p2 - 1) p4).bind (fun v12 => (fX12_xAt m p0 p1 p2 p4).bind (fun v14 => (fX12_yAt m p0 p1 p2 p4).bind (fun v16 => (fX12_sideOf m v2 v4 v6 v8 v10 v12).bind (fun v18 => (fX12_sideOf m v2 v4 v6 v8 v14 v16).bind (fun v20 => if 0 ≤ (lg_cmp (v18 * v20) 0) then some 0 else (fX12_sideOf m v10 v12 v14 v16 v2 v4).bind (fun v22 => (fX12_sideOf m v10 v12 v14 v16 v6 v8).bind (fun v24 => if 0 ≤ (lg_cmp (v22 * v24) 0) then some 0 else some 1)))))))))))))
set_option maxHeartbeats 4000000 in
set_option maxRecDepth 100000 in
theorem kX12_areCrossing (l : Launch) (g : dG) {m : dM} {p0 : Nat} {p1 : Int32} {p2 : Int32} {p3 : Int32} {p4 : Int32} {r0 : Int32} (h : fX12_areCrossing m p0 p1 p2 p3 p4 = some r0) : dMet l g yX12_areCrossing wsX12_areCrossing (dRm 3 68) [.ref (dad g p0), .int p1, .int p2, .int p3, .int p4] m (dQI g r0 m) := by
  refine dof (cc := cX12_areCrossing) (maxL := 13) (ret := (some .boolean)) _ (plainFor_of_name (by decide)) rfl (Nat.le_of_ble_eq_true rfl) ?_
  intro p e s mth below meth c S hr hlk hE H ls hP hS hl
  have S : CallFix p mth c cX12_areCrossing 13 s _ wsX12_areCrossing RX12 := S
  have hl : lv_has ls 13 [(0, .ref (dad g p0)), (1, .int p1), (2, .int p2), (3, .int p3), (4, .int p4)] := hl
  obtain ⟨locs, hlocs⟩ : ∃ z : List Loc, z = [] := ⟨_, rfl⟩
  rw [← hlocs] at hS ⊢
  unfold fX12_areCrossing at h
  obtain ⟨k0, h⟩ := d_g h
  have k0 := d_k k0
  refine lv_aload_n S.1 S.2.1 dX12_areCrossing_0 rfl (lv_at hl 0 rfl) ?_
  refine lv_iload_n S.1 S.2.1 dX12_areCrossing_1 rfl (lv_at hl 1 rfl) ?_
  refine lv_iload_n S.1 S.2.1 dX12_areCrossing_2 rfl (lv_at hl 2 rfl) ?_
  refine lv_iconst (v := 1) S.1 S.2.1 dX12_areCrossing_3 (by decide) ?_
  refine lv_isub S.1 S.2.1 dX12_areCrossing_4 ?_
  refine lv_iload_n S.1 S.2.1 dX12_areCrossing_5 rfl (lv_at hl 3 rfl) ?_
  obtain ⟨v2, hc1, h⟩ := d_b h
  refine dri (va_runV (As := [.int p1, .int (p2 - 1), .int p3]) (rest := []) S (kX12_xAt l g hc1) (cwV 3 S.2.2.2.2 gX12_areCrossing_X12_xAt rfl rfl rfl ynX12_xAt ⟨Nat.le_of_ble_eq_true rfl, Nat.le_of_ble_eq_true rfl⟩) (dpV hE hP hS (ci := 12) rfl (dat13 k0)) rfl rfl hl.1 rfl (lv_room (Nat.le_of_ble_eq_true rfl)) dX12_areCrossing_6 ⟨Nat.le_of_ble_eq_true rfl, Nat.le_of_ble_eq_true rfl⟩) hS (fun H locs hP hS => ?_)
  refine lv_istore (lv' := [(5, .int v2), (0, .ref (dad g p0)), (1, .int p1), (2, .int p2), (3, .int p3), (4, .int p4)]) S.1 S.2.1 dX12_areCrossing_9 hl (by decide) rfl (fun ls hl => ?_)
  refine lv_aload_n S.1 S.2.1 dX12_areCrossing_11 rfl (lv_at hl 1 rfl) ?_
  refine lv_iload_n S.1 S.2.1 dX12_areCrossing_12 rfl (lv_at hl 2 rfl) ?_
  refine lv_iload_n S.1 S.2.1 dX12_areCrossing_13 rfl (lv_at hl 3 rfl) ?_
  refine lv_iconst (v := 1) S.1 S.2.1 dX12_areCrossing_14 (by decide) ?_
  refine lv_isub S.1 S.2.1 dX12_areCrossing_15 ?_
  refine lv_iload_n S.1 S.2.1 dX12_areCrossing_16 rfl (lv_at hl 4 rfl) ?_
  obtain ⟨v4, hc3, h⟩ := d_b h
  refine dri (va_runV (As := [.int p1, .int (p2 - 1), .int p3]) (rest := []) S (kX12_yAt l g hc3) (cwV 3 S.2.2.2.2 gX12_areCrossing_X12_yAt rfl rfl rfl ynX12_yAt ⟨Nat.le_of_ble_eq_true rfl, Nat.le_of_ble_eq_true rfl⟩) (dpV hE hP hS (ci := 12) rfl (dat13 k0)) rfl rfl hl.1 rfl (lv_room (Nat.le_of_ble_eq_true rfl)) dX12_areCrossing_17 ⟨Nat.le_of_ble_eq_true rfl, Nat.le_of_ble_eq_true rfl⟩) hS (fun H locs hP hS => ?_)
  refine lv_istore (lv' := [(6, .int v4), (5, .int v2), (0, .ref (dad g p0)), (1, .int p1), (2, .int p2), (3, .int p3), (4, .int p4)]) S.1 S.2.1 dX12_areCrossing_20 hl (by decide) rfl (fun ls hl => ?_)
  refine lv_aload_n S.1 S.2.1 dX12_areCrossing_22 rfl (lv_at hl 2 rfl) ?_
  refine lv_iload_n S.1 S.2.1 dX12_areCrossing_23 rfl (lv_at hl 3 rfl) ?_
  refine lv_iload_n S.1 S.2.1 dX12_areCrossing_24 rfl (lv_at hl 4 rfl) ?_
  refine lv_iload_n S.1 S.2.1 dX12_areCrossing_25 rfl (lv_at hl 5 rfl) ?_
  obtain ⟨v6, hc5, h⟩ := d_b h
  refine dri (va_runV (As := [.int p1, .int p2, .int p3]) (rest := []) S (kX12_xAt l g hc5) (cwV 3 S.2.2.2.2 gX12_areCrossing_X12_xAt rfl rfl rfl ynX12_xAt ⟨Nat.le_of_ble_eq_true rfl, Nat.le_of_ble_eq_true rfl⟩) (dpV hE hP hS (ci := 12) rfl (dat13 k0)) rfl rfl hl.1 rfl (lv_room (Nat.le_of_ble_eq_true rfl)) dX12_areCrossing_26 ⟨Nat.le_of_ble_eq_true rfl, Nat.le_of_ble_eq_true rfl⟩) hS (fun H locs hP hS => ?_)
  refine lv_istore (lv' := [(7, .int v6), (6, .int v4), (5, .int v2), (0, .ref (dad g p0)), (1, .int p1), (2, .int p2), (3, .int p3), (4, .int p4)]) S.1 S.2.1 dX12_areCrossing_29 hl (by decide) rfl (fun ls hl => ?_)
  refine lv_aload_n S.1 S.2.1 dX12_areCrossing_31 rfl (lv_at hl 3 rfl) ?_
  refine lv_iload_n S.1 S.2.1 dX12_areCrossing_32 rfl (lv_at hl 4 rfl) ?_
  refine lv_iload_n S.1 S.2.1 dX12_areCrossing_33 rfl (lv_at hl 5 rfl) ?_
  refine lv_iload_n S.1 S.2.1 dX12_areCrossing_34 rfl (lv_at hl 6 rfl) ?_
  obtain ⟨v8, hc7, h⟩ := d_b h
  refine dri (va_runV (As := [.int p1, .int p2, .int p3]) (rest := []) S (kX12_yAt l g hc7) (cwV 3 S.2.2.2.2 gX12_areCrossing_X12_yAt rfl rfl rfl ynX12_yAt ⟨Nat.le_of_ble_eq_true rfl, Nat.le_of_ble_eq_true rfl⟩) (dpV hE hP hS (ci := 12) rfl (dat13 k0)) rfl rfl hl.1 rfl (lv_room (Nat.le_of_ble_eq_true rfl)) dX12_areCrossing_35 ⟨Nat.le_of_ble_eq_true rfl, Nat.le_of_ble_eq_true rfl⟩) hS (fun H locs hP hS => ?_)
  refine lv_istore (lv' := [(8, .int v8), (7, .int v6), (6, .int v4), (5, .int v2), (0, .ref (dad g p0)), (1, .int p1), (2, .int p2), (3, .int p3), (4, .int p4)]) S.1 S.2.1 dX12_areCrossing_38 hl (by decide) rfl (fun ls hl => ?_)
  refine lv_aload_n S.1 S.2.1 dX12_areCrossing_40 rfl (lv_at hl 4 rfl) ?_
  refine lv_iload_n S.1 S.2.1 dX12_areCrossing_41 rfl (lv_at hl 5 rfl) ?_
  refine lv_iload_n S.1 S.2.1 dX12_areCrossing_42 rfl (lv_at hl 6 rfl) ?_
  refine lv_iconst (v := 1) S.1 S.2.1 dX12_areCrossing_43 (by decide) ?_
  refine lv_isub S.1 S.2.1 dX12_areCrossing_44 ?_
  refine lv_iload S.1 S.2.1 dX12_areCrossing_45 (lv_at hl 8 rfl) ?_
  obtain ⟨v10, hc9, h⟩ := d_b h
  refine dri (va_runV (As := [.int p1, .int (p2 - 1), .int p4]) (rest := []) S (kX12_xAt l g hc9) (cwV 3 S.2.2.2.2 gX12_areCrossing_X12_xAt rfl rfl rfl ynX12_xAt ⟨Nat.le_of_ble_eq_true rfl, Nat.le_of_ble_eq_true rfl⟩) (dpV hE hP hS (ci := 12) rfl (dat13 k0)) rfl rfl hl.1 rfl (lv_room (Nat.le_of_ble_eq_true rfl)) dX12_areCrossing_47 ⟨Nat.le_of_ble_eq_true rfl, Nat.le_of_ble_eq_true rfl⟩) hS (fun H locs hP hS => ?_)
  refine lv_istore (lv' := [(9, .int v10), (8, .int v8), (7, .int v6), (6, .int v4), (5, .int v2), (0, .ref (dad g p0)), (1, .int p1), (2, .int p2), (3, .int p3), (4, .int p4)]) S.1 S.2.1 dX12_areCrossing_50 hl (by decide) rfl (fun ls hl => ?_)
  refine lv_aload_n S.1 S.2.1 dX12_areCrossing_52 rfl (lv_at hl 5 rfl) ?_
  refine lv_iload_n S.1 S.2.1 dX12_areCrossing_53 rfl (lv_at hl 6 rfl) ?_
  refine lv_iload_n S.1 S.2.1 dX12_areCrossing_54 rfl (lv_at hl 7 rfl) ?_
  refine lv_iconst (v := 1) S.1 S.2.1 dX12_areCrossing_55 (by decide) ?_
  refine lv_isub S.1 S.2.1 dX12_areCrossing_56 ?_
  refine lv_iload S.1 S.2.1 dX12_areCrossing_57 (lv_at hl 9 rfl) ?_
  obtain ⟨v12, hc11, h⟩ := d_b h
  refine dri (va_runV (As := [.int p1, .int (p2 - 1), .int p4]) (rest := []) S (kX12_yAt l g hc11) (cwV 3 S.2.2.2.2 gX12_areCrossing_X12_yAt rfl rfl rfl ynX12_yAt ⟨Nat.le_of_ble_eq_true rfl, Nat.le_of_ble_eq_true rfl⟩) (dpV hE hP hS (ci := 12) rfl (dat13 k0)) rfl rfl hl.1 rfl (lv_room (Nat.le_of_ble_eq_true rfl)) dX12_areCrossing_59 ⟨Nat.le_of_ble_eq_true rfl, Nat.le_of_ble_eq_true rfl⟩) hS (fun H locs hP hS => ?_)
  refine lv_istore (lv' := [(10, .int v12), (9, .int v10), (8, .int v8), (7, .int v6), (6, .int v4), (5, .int v2), (0, .ref (dad g p0)), (1, .int p1), (2, .int p2), (3, .int p3), (4, .int p4)]) S.1 S.2.1 dX12_areCrossing_62 hl (by decide) rfl (fun ls hl => ?_)
  refine lv_aload_n S.1 S.2.1 dX12_areCrossing_64 rfl (lv_at hl 6 rfl) ?_
  refine lv_iload_n S.1 S.2.1 dX12_areCrossing_65 rfl (lv_at hl 7 rfl) ?_
  refine lv_iload_n S.1 S.2.1 dX12_areCrossing_66 rfl (lv_at hl 8 rfl) ?_
  refine lv_iload S.1 S.2.1 dX12_areCrossing_67 (lv_at hl 10 rfl) ?_
  obtain ⟨v14, hc13, h⟩ := d_b h
  refine dri (va_runV (As := [.int p1, .int p2, .int p4]) (rest := []) S (kX12_xAt l g hc13) (cwV 3 S.2.2.2.2 gX12_areCrossing_X12_xAt rfl rfl rfl ynX12_xAt ⟨Nat.le_of_ble_eq_true rfl, Nat.le_of_ble_eq_true rfl⟩) (dpV hE hP hS (ci := 12) rfl (dat13 k0)) rfl rfl hl.1 rfl (lv_room (Nat.le_of_ble_eq_true rfl)) dX12_areCrossing_69 ⟨Nat.le_of_ble_eq_true rfl, Nat.le_of_ble_eq_true rfl⟩) hS (fun H locs hP hS => ?_)
  refine lv_istore (lv' := [(11, .int v14), (10, .int v12), (9, .int v10), (8, .int v8), (7, .int v6), (6, .int v4), (5, .int v2), (0, .ref (dad g p0)), (1, .int p1), (2, .int p2), (3, .int p3), (4, .int p4)]) S.1 S.2.1 dX12_areCrossing_72 hl (by decide) rfl (fun ls hl => ?_)
  refine lv_aload_n S.1 S.2.1 dX12_areCrossing_74 rfl (lv_at hl 7 rfl) ?_
  refine lv_iload_n S.1 S.2.1 dX12_areCrossing_75 rfl (lv_at hl 8 rfl) ?_
  refine lv_iload_n S.1 S.2.1 dX12_areCrossing_76 rfl (lv_at hl 9 rfl) ?_
  refine lv_iload S.1 S.2.1 dX12_areCrossing_77 (lv_at hl 11 rfl) ?_
  obtain ⟨v16, hc15, h⟩ := d_b h
  refine dri (va_runV (As := [.int p1, .int p2, .int p4]) (rest := []) S (kX12_yAt l g hc15) (cwV 3 S.2.2.2.2 gX12_areCrossing_X12_yAt rfl rfl rfl ynX12_yAt ⟨Nat.le_of_ble_eq_true rfl, Nat.le_of_ble_eq_true rfl⟩) (dpV hE hP hS (ci := 12) rfl (dat13 k0)) rfl rfl hl.1 rfl (lv_room (Nat.le_of_ble_eq_true rfl)) dX12_areCrossing_79 ⟨Nat.le_of_ble_eq_true rfl, Nat.le_of_ble_eq_true rfl⟩) hS (fun H locs hP hS => ?_)
  refine lv_istore (lv' := [(12, .int v16), (11, .int v14), (10, .int v12), (9, .int v10), (8, .int v8), (7, .int v6), (6, .int v4), (5, .int v2), (0, .ref (dad g p0)), (1, .int p1), (2, .int p2), (3, .int p3), (4, .int p4)]) S.1 S.2.1 dX12_areCrossing_82 hl (by decide) rfl (fun ls hl => ?_)
  refine lv_iload S.1 S.2.1 dX12_areCrossing_84 (lv_at hl 7 rfl) ?_
  refine lv_iload S.1 S.2.1 dX12_areCrossing_86 (lv_at hl 6 rfl) ?_
  refine lv_iload S.1 S.2.1 dX12_areCrossing_88 (lv_at hl 5 rfl) ?_
  refine lv_iload S.1 S.2.1 dX12_areCrossing_90 (lv_at hl 4 rfl) ?_
  refine lv_iload S.1 S.2.1 dX12_areCrossing_92 (lv_at hl 3 rfl) ?_
  refine lv_iload S.1 S.2.1 dX12_areCrossing_94 (lv_at hl 2 rfl) ?_
  obtain ⟨v18, hc17, h⟩ := d_b h
  refine drj (va_runS (As := [.int v2, .int v4, .int v6, .int v8, .int v10, .int v12]) (rest := []) S (kX12_sideOf l g hc17) (va_cwS 6 S.2.2.2.2 gX12_areCrossing_X12_sideOf rfl rfl rfl ynX12_sideOf ⟨Nat.le_of_ble_eq_true rfl, Nat.le_of_ble_eq_true rfl⟩) (dpS hE hP hS) rfl rfl hl.1 rfl (lv_room (Nat.le_of_ble_eq_true rfl)) dX12_areCrossing_96 ⟨Nat.le_of_ble_eq_true rfl, Nat.le_of_ble_eq_true rfl⟩) hS (fun H locs hP hS => ?_)
  refine lv_iload S.1 S.2.1 dX12_areCrossing_99 (lv_at hl 7 rfl) ?_
  refine lv_iload S.1 S.2.1 dX12_areCrossing_101 (lv_at hl 6 rfl) ?_
  refine lv_iload S.1 S.2.1 dX12_areCrossing_103 (lv_at hl 5 rfl) ?_
  refine lv_iload S.1 S.2.1 dX12_areCrossing_105 (lv_at hl 4 rfl) ?_
  refine lv_iload S.1 S.2.1 dX12_areCrossing_107 (lv_at hl 1 rfl) ?_
  refine lv_iload S.1 S.2.1 dX12_areCrossing_109 (lv_at hl 0 rfl) ?_
  obtain ⟨v20, hc19, h⟩ := d_b h
  refine drj (va_runS (As := [.int v2, .int v4, .int v6, .int v8, .int v14, .int v16]) (rest := [.long v18]) S (kX12_sideOf l g hc19) (va_cwS 6 S.2.2.2.2 gX12_areCrossing_X12_sideOf rfl rfl rfl ynX12_sideOf ⟨Nat.le_of_ble_eq_true rfl, Nat.le_of_ble_eq_true rfl⟩) (dpS hE hP hS) rfl rfl hl.1 rfl (lv_room (Nat.le_of_ble_eq_true rfl)) dX12_areCrossing_111 ⟨Nat.le_of_ble_eq_true rfl, Nat.le_of_ble_eq_true rfl⟩) hS (fun H locs hP hS => ?_)
  refine lv_lmul S.1 S.2.1 dX12_areCrossing_114 ?_
  refine lv_lconst (v := 0) S.1 S.2.1 dX12_areCrossing_115 (by decide) ?_
  refine W.lcmp S.1 S.2.1 dX12_areCrossing_116 ?_
  refine lv_if_ge (tgt := 160) S.1 S.2.1 dX12_areCrossing_117 (by decide) (fun cq => ?_) (fun cq => ?_)
  · have h := d_t cq h
    refine lv_iconst (v := 0) S.1 S.2.1 dX12_areCrossing_160 (by decide) ?_
    obtain rfl := Option.some.inj h
    exact dti S hr hlk hE hP hS rfl dX12_areCrossing_161
  · have h := d_f cq h
    refine lv_iload S.1 S.2.1 dX12_areCrossing_120 (lv_at hl 3 rfl) ?_
    refine lv_iload S.1 S.2.1 dX12_areCrossing_122 (lv_at hl 2 rfl) ?_
    refine lv_iload S.1 S.2.1 dX12_areCrossing_124 (lv_at hl 1 rfl) ?_
    refine lv_iload S.1 S.2.1 dX12_areCrossing_126 (lv_at hl 0 rfl) ?_
    refine lv_iload S.1 S.2.1 dX12_areCrossing_128 (lv_at hl 7 rfl) ?_
    refine lv_iload S.1 S.2.1 dX12_areCrossing_130 (lv_at hl 6 rfl) ?_
    obtain ⟨v22, hc21, h⟩ := d_b h
    refine drj (va_runS (As := [.int v10, .int v12, .int v14, .int v16, .int v2, .int v4]) (rest := []) S (kX12_sideOf l g hc21) (va_cwS 6 S.2.2.2.2 gX12_areCrossing_X12_sideOf rfl rfl rfl ynX12_sideOf ⟨Nat.le_of_ble_eq_true rfl, Nat.le_of_ble_eq_true rfl⟩) (dpS hE hP hS) rfl rfl hl.1 rfl (lv_room (Nat.le_of_ble_eq_true rfl)) dX12_areCrossing_132 ⟨Nat.le_of_ble_eq_true rfl, Nat.le_of_ble_eq_true rfl⟩) hS (fun H locs hP hS => ?_)
    refine lv_iload S.1 S.2.1 dX12_areCrossing_135 (lv_at hl 3 rfl) ?_
    refine lv_iload S.1 S.2.1 dX12_areCrossing_137 (lv_at hl 2 rfl) ?_
    refine lv_iload S.1 S.2.1 dX12_areCrossing_139 (lv_at hl 1 rfl) ?_
    refine lv_iload S.1 S.2.1 dX12_areCrossing_141 (lv_at hl 0 rfl) ?_
    refine lv_iload S.1 S.2.1 dX12_areCrossing_143 (lv_at hl 5 rfl) ?_
    refine lv_iload S.1 S.2.1 dX12_areCrossing_145 (lv_at hl 4 rfl) ?_
    obtain ⟨v24, hc23, h⟩ := d_b h
    refine drj (va_runS (As := [.int v10, .int v12, .int v14, .int v16, .int v6, .int v8]) (rest := [.long v22]) S (kX12_sideOf l g hc23) (va_cwS 6 S.2.2.2.2 gX12_areCrossing_X12_sideOf rfl rfl rfl ynX12_sideOf ⟨Nat.le_of_ble_eq_true rfl, Nat.le_of_ble_eq_true rfl⟩) (dpS hE hP hS) rfl rfl hl.1 rfl (lv_room (Nat.le_of_ble_eq_true rfl)) dX12_areCrossing_147 ⟨Nat.le_of_ble_eq_true rfl, Nat.le_of_ble_eq_true rfl⟩) hS (fun H locs hP hS => ?_)
    refine lv_lmul S.1 S.2.1 dX12_areCrossing_150 ?_
    refine lv_lconst (v := 0) S.1 S.2.1 dX12_areCrossing_151 (by decide) ?_
    refine W.lcmp S.1 S.2.1 dX12_areCrossing_152 ?_
    refine lv_if_ge (tgt := 160) S.1 S.2.1 dX12_areCrossing_153 (by decide) (fun cq => ?_) (fun cq => ?_)
    · have h := d_t cq h
      refine lv_iconst (v := 0) S.1 S.2.1 dX12_areCrossing_160 (by decide) ?_
      obtain rfl := Option.some.inj h
      exact dti S hr hlk hE hP hS rfl dX12_areCrossing_161
    · have h := d_f cq h
      refine lv_iconst (v := 1) S.1 S.2.1 dX12_areCrossing_156 (by decide) ?_
      refine lv_goto (tgt := 161) S.1 S.2.1 dX12_areCrossing_157 (by decide) ?_
      obtain rfl := Option.some.inj h
      exact dti S hr hlk hE hP hS rfl dX12_areCrossing_161
set_option maxRecDepth 20000 in
theorem ggX12_isPart_X12_isIn : GoodIn wsX12_isPart wsX12_isIn := goodIn_r _ [5] (by decide +kernel) (by decide +kernel)
set_option maxRecDepth 20000 in
theorem gX12_isPart_X12_isIn : GoodIn wsX12_isPart (va_wsS RX12 79 yX12_isIn wsX12_isIn) := goodIn_app (goodIn_of _ (by decide +kernel)) ggX12_isPart_X12_isIn
theorem dX12_isPart_0 : decode cX12_isPart 0 = .ok (.iload_n 1, 1) := by decide +kernel
theorem dX12_isPart_1 : decode cX12_isPart 1 = .ok (.iconst 0, 1) := by decide +kernel
theorem dX12_isPart_2 : decode cX12_isPart 2 = .ok (.aload_n 0, 1) := by decide +kernel
theorem dX12_isPart_3 : decode cX12_isPart 3 = .ok (.getfield 83, 3) := by decide +kernel
theorem dX12_isPart_6 : decode cX12_isPart 6 = .ok (.iconst 1, 1) := by decide +kernel
theorem dX12_isPart_7 : decode cX12_isPart 7 = .ok (.isub, 1) := by decide +kernel
theorem dX12_isPart_8 : decode cX12_isPart 8 = .ok (.invokestatic 79, 3) := by decide +kernel
theorem dX12_isPart_11 : decode cX12_isPart 11 = .ok (.ireturn, 1) := by decide +kernel
def fX12_isPart (m : dM) (p0 : Nat) (p1 : Int32) : Option Int32 := dg (dkg p0 13) ((fX12_isIn m p1 0 ((m.1 p0 8) - 1)).bind (fun v2 => dg (dB v2) (some v2)))
set_option maxHeartbeats 4000000 in
set_option maxRecDepth 100000 in
theorem kX12_isPart (l : Launch) (g : dG) {m : dM} {p0 : Nat} {p1 : Int32} {r0 : Int32} (h : fX12_isPart m p0 p1 = some r0) : dMet l g yX12_isPart wsX12_isPart (dRm 1 22) [.ref (dad g p0), .int p1] m (dQI g r0 m) := by
  refine dof (cc := cX12_isPart) (maxL := 2) (ret := (some .boolean)) _ (plainFor_of_name (by decide)) rfl (Nat.le_of_ble_eq_true rfl) ?_
  intro p e s mth below meth c S hr hlk hE H ls hP hS hl
  have S : CallFix p mth c cX12_isPart 2 s _ wsX12_isPart RX12 := S
  have hl : lv_has ls 2 [(0, .ref (dad g p0)), (1, .int p1)] := hl
  obtain ⟨locs, hlocs⟩ : ∃ z : List Loc, z = [] := ⟨_, rfl⟩
  rw [← hlocs] at hS ⊢
  have in12 : ∀ w ∈ wsX120, w ∈ wsX12_isPart := by decide +kernel
  unfold fX12_isPart at h
  obtain ⟨k0, h⟩ := d_g h
  have k0 := d_k k0
  refine lv_iload_n S.1 S.2.1 dX12_isPart_0 rfl (lv_at hl 1 rfl) ?_
  refine lv_iconst (v := 0) S.1 S.2.1 dX12_isPart_1 (by decide) ?_
  refine lv_aload_n S.1 S.2.1 dX12_isPart_2 rfl (lv_at hl 0 rfl) ?_
  refine dgf12_8 S in12 hE hP k0 (S.2.2.2.2 (.fieldLink RX12 83 "DrillFieldModel" "parts" "I") (List.mem_of_getElem? (i := 1) rfl)) dX12_isPart_3 ?_
  refine lv_iconst (v := 1) S.1 S.2.1 dX12_isPart_6 (by decide) ?_
  refine lv_isub S.1 S.2.1 dX12_isPart_7 ?_
  obtain ⟨v2, hc1, h⟩ := d_b h
  refine dri (va_runS (As := [.int p1, .int 0, .int ((m.1 p0 8) - 1)]) (rest := []) S (kX12_isIn l g hc1) (va_cwS 3 S.2.2.2.2 gX12_isPart_X12_isIn rfl rfl rfl ynX12_isIn ⟨Nat.le_of_ble_eq_true rfl, Nat.le_of_ble_eq_true rfl⟩) (dpS hE hP hS) rfl rfl hl.1 rfl (lv_room (Nat.le_of_ble_eq_true rfl)) dX12_isPart_8 ⟨Nat.le_of_ble_eq_true rfl, Nat.le_of_ble_eq_true rfl⟩) hS (fun H locs hP hS => ?_)
  obtain ⟨hb, h⟩ := d_g h
  obtain rfl := Option.some.inj h
  exact dti S hr hlk hE hP hS (dB_nar2 hb) dX12_isPart_11
set_option maxRecDepth 20000 in
theorem ggX12_at_X12_isPart : GoodIn wsX12_at wsX12_isPart := goodIn_r _ [7, 8, 9, 10, 6, 11, 48, 49, 50, 51, 52, 53, 54, 55, 56, 57, 58, 59, 60, 61, 62, 63, 64, 65, 66, 67, 68, 69, 70, 71, 72, 73, 74, 75] (by decide +kernel) (by decide +kernel)
set_option maxRecDepth 20000 in
theorem gX12_at_X12_isPart : GoodIn wsX12_at (wsV RX12 152 RX12 yX12_isPart wsX12_isPart) := goodIn_app (goodIn_of _ (by decide +kernel)) ggX12_at_X12_isPart
set_option maxRecDepth 20000 in
theorem ggX12_at_X12_isDot : GoodIn wsX12_at wsX12_isDot := goodIn_r _ [15, 16, 9, 10, 6, 11, 48, 49, 50, 51, 52, 53, 54, 55, 56, 57, 58, 59, 60, 61, 62, 63, 64, 65, 66, 67, 68, 69, 70, 71, 72, 73, 74, 75] (by decide +kernel) (by decide +kernel)
set_option maxRecDepth 20000 in
theorem gX12_at_X12_isDot : GoodIn wsX12_at (wsV RX12 89 RX12 yX12_isDot wsX12_isDot) := goodIn_app (goodIn_of _ (by decide +kernel)) ggX12_at_X12_isDot
set_option maxRecDepth 20000 in
theorem ggX12_at_X12_isIn : GoodIn wsX12_at wsX12_isIn := goodIn_r _ [11] (by decide +kernel) (by decide +kernel)
set_option maxRecDepth 20000 in
theorem gX12_at_X12_isIn : GoodIn wsX12_at (va_wsS RX12 79 yX12_isIn wsX12_isIn) := goodIn_app (goodIn_of _ (by decide +kernel)) ggX12_at_X12_isIn
set_option maxRecDepth 20000 in
theorem ggX12_at_X12_xAt : GoodIn wsX12_at wsX12_xAt := goodIn_r _ [20, 1, 21, 22, 23, 6, 24, 25, 26, 27, 28, 29, 30, 31, 32, 33, 34, 48, 49, 50, 51, 52, 53, 54, 55, 56, 57, 58, 59, 60, 61, 62, 63, 64, 65, 66, 67, 68, 69, 70, 71, 72, 73, 74, 75] (by decide +kernel) (by decide +kernel)
set_option maxRecDepth 20000 in
theorem gX12_at_X12_xAt : GoodIn wsX12_at (wsV RX12 155 RX12 yX12_xAt wsX12_xAt) := goodIn_app (goodIn_of _ (by decide +kernel)) ggX12_at_X12_xAt
set_option maxRecDepth 20000 in
theorem ggX12_at_X12_yAt : GoodIn wsX12_at wsX12_yAt := goodIn_r _ [38, 1, 39, 40, 41, 6, 42, 43, 44, 45, 46, 47, 30, 31, 32, 33, 34, 48, 49, 50, 51, 52, 53, 54, 55, 56, 57, 58, 59, 60, 61, 62, 63, 64, 65, 66, 67, 68, 69, 70, 71, 72, 73, 74, 75] (by decide +kernel) (by decide +kernel)
set_option maxRecDepth 20000 in
theorem gX12_at_X12_yAt : GoodIn wsX12_at (wsV RX12 159 RX12 yX12_yAt wsX12_yAt) := goodIn_app (goodIn_of _ (by decide +kernel)) ggX12_at_X12_yAt
theorem dX12_at_0 : decode cX12_at 0 = .ok (.aload_n 0, 1) := by decide +kernel
theorem dX12_at_1 : decode cX12_at 1 = .ok (.aload_n 0, 1) := by decide +kernel
theorem dX12_at_2 : decode cX12_at 2 = .ok (.iload_n 1, 1) := by decide +kernel
theorem dX12_at_3 : decode cX12_at 3 = .ok (.invokevirtual 152, 3) := by decide +kernel
theorem dX12_at_6 : decode cX12_at 6 = .ok (.ifCond .eq 11, 3) := by decide +kernel
theorem dX12_at_9 : decode cX12_at 9 = .ok (.aload_n 0, 1) := by decide +kernel
theorem dX12_at_10 : decode cX12_at 10 = .ok (.iload_n 3, 1) := by decide +kernel
theorem dX12_at_11 : decode cX12_at 11 = .ok (.invokevirtual 89, 3) := by decide +kernel
theorem dX12_at_14 : decode cX12_at 14 = .ok (.ifCond .ne 7, 3) := by decide +kernel
theorem dX12_at_17 : decode cX12_at 17 = .ok (.iconst 1, 1) := by decide +kernel
theorem dX12_at_18 : decode cX12_at 18 = .ok (.goto 22, 3) := by decide +kernel
theorem dX12_at_21 : decode cX12_at 21 = .ok (.iload_n 2, 1) := by decide +kernel
theorem dX12_at_22 : decode cX12_at 22 = .ok (.iconst 0, 1) := by decide +kernel
theorem dX12_at_23 : decode cX12_at 23 = .ok (.aload_n 0, 1) := by decide +kernel
theorem dX12_at_24 : decode cX12_at 24 = .ok (.getfield 36, 3) := by decide +kernel
theorem dX12_at_27 : decode cX12_at 27 = .ok (.iload_n 1, 1) := by decide +kernel
theorem dX12_at_28 : decode cX12_at 28 = .ok (.iaload, 1) := by decide +kernel
theorem dX12_at_29 : decode cX12_at 29 = .ok (.invokestatic 79, 3) := by decide +kernel
theorem dX12_at_32 : decode cX12_at 32 = .ok (.ifCond .ne 7, 3) := by decide +kernel
theorem dX12_at_35 : decode cX12_at 35 = .ok (.iconst 2, 1) := by decide +kernel
theorem dX12_at_36 : decode cX12_at 36 = .ok (.goto 4, 3) := by decide +kernel
theorem dX12_at_39 : decode cX12_at 39 = .ok (.iconst 0, 1) := by decide +kernel
theorem dX12_at_40 : decode cX12_at 40 = .ok (.putfield 76, 3) := by decide +kernel
theorem dX12_at_43 : decode cX12_at 43 = .ok (.aload_n 0, 1) := by decide +kernel
theorem dX12_at_44 : decode cX12_at 44 = .ok (.getfield 76, 3) := by decide +kernel
theorem dX12_at_47 : decode cX12_at 47 = .ok (.ifCond .le 7, 3) := by decide +kernel
theorem dX12_at_50 : decode cX12_at 50 = .ok (.iconst 0, 1) := by decide +kernel
theorem dX12_at_51 : decode cX12_at 51 = .ok (.goto 22, 3) := by decide +kernel
theorem dX12_at_54 : decode cX12_at 54 = .ok (.sipush 2000, 3) := by decide +kernel
theorem dX12_at_57 : decode cX12_at 57 = .ok (.aload_n 0, 1) := by decide +kernel
theorem dX12_at_58 : decode cX12_at 58 = .ok (.iload_n 1, 1) := by decide +kernel
theorem dX12_at_59 : decode cX12_at 59 = .ok (.iload_n 2, 1) := by decide +kernel
theorem dX12_at_60 : decode cX12_at 60 = .ok (.iload_n 3, 1) := by decide +kernel
theorem dX12_at_61 : decode cX12_at 61 = .ok (.invokevirtual 155, 3) := by decide +kernel
theorem dX12_at_64 : decode cX12_at 64 = .ok (.imul, 1) := by decide +kernel
theorem dX12_at_65 : decode cX12_at 65 = .ok (.aload_n 0, 1) := by decide +kernel
theorem dX12_at_66 : decode cX12_at 66 = .ok (.iload_n 1, 1) := by decide +kernel
theorem dX12_at_67 : decode cX12_at 67 = .ok (.iload_n 2, 1) := by decide +kernel
theorem dX12_at_68 : decode cX12_at 68 = .ok (.iload_n 3, 1) := by decide +kernel
theorem dX12_at_69 : decode cX12_at 69 = .ok (.invokevirtual 159, 3) := by decide +kernel
theorem dX12_at_72 : decode cX12_at 72 = .ok (.iadd, 1) := by decide +kernel
theorem dX12_at_73 : decode cX12_at 73 = .ok (.ireturn, 1) := by decide +kernel
def fX12_at (m : dM) (p0 : Nat) (p1 : Int32) (p2 : Int32) (p3 : Int32) : Option (Int32 × dM) := dg (dkg p0 13) ((fX12_isPart m p0 p1).bind (fun v2 => if v2 = 0 then dlet (d1 m p0 25 1) (fun m3 => some (0, m3)) else (fX12_isDot m p0 p3).bind (fun v5 => if v5 = 0 then dlet (d1 m p0 25 1) (fun m14 => some (0, m14)) else dg (dIx p1 (dL 452)) ((fX12_isIn m p2 0 (m.1 452 (Int32.toNatClampNeg (p1)))).bind (fun v7 => if v7 = 0 then dlet (d1 m p0 25 2) (fun m13 => some (0, m13)) else dlet (d1 m p0 25 0) (fun m8 => (fX12_xAt m8 p0 p1 p2 p3).bind (fun v10 => (fX12_yAt m8 p0 p1 p2 p3).bind (fun v12 => some ((2000 * v10) + v12, m8)))))))))
set_option maxHeartbeats 4000000 in
set_option maxRecDepth 100000 in
theorem kX12_at (l : Launch) (g : dG) {m : dM} {p0 : Nat} {p1 : Int32} {p2 : Int32} {p3 : Int32} {r0 : Int32} {m0 : dM} (h : fX12_at m p0 p1 p2 p3 = some (r0, m0)) : dMet l g yX12_at wsX12_at (dRm 3 68) [.ref (dad g p0), .int p1, .int p2, .int p3] m (dQI g r0 m0) := by
  refine dof (cc := cX12_at) (maxL := 4) (ret := (some .int)) _ (plainFor_of_name (by decide)) rfl (Nat.le_of_ble_eq_true rfl) ?_
  intro p e s mth below meth c S hr hlk hE H ls hP hS hl
  have S : CallFix p mth c cX12_at 4 s _ wsX12_at RX12 := S
  have hl : lv_has ls 4 [(0, .ref (dad g p0)), (1, .int p1), (2, .int p2), (3, .int p3)] := hl
  obtain ⟨locs, hlocs⟩ : ∃ z : List Loc, z = [] := ⟨_, rfl⟩
  rw [← hlocs] at hS ⊢
  have in12 : ∀ w ∈ wsX120, w ∈ wsX12_at := by decide +kernel
  unfold fX12_at at h
  obtain ⟨k0, h⟩ := d_g h
  have k0 := d_k k0
  refine lv_aload_n S.1 S.2.1 dX12_at_0 rfl (lv_at hl 0 rfl) ?_
  refine lv_aload_n S.1 S.2.1 dX12_at_1 rfl (lv_at hl 0 rfl) ?_
  refine lv_iload_n S.1 S.2.1 dX12_at_2 rfl (lv_at hl 1 rfl) ?_
  obtain ⟨v2, hc1, h⟩ := d_b h
  refine dri (va_runV (As := [.int p1]) (rest := [.ref (dad g p0)]) S (kX12_isPart l g hc1) (cwV 1 S.2.2.2.2 gX12_at_X12_isPart rfl rfl rfl ynX12_isPart ⟨Nat.le_of_ble_eq_true rfl, Nat.le_of_ble_eq_true rfl⟩) (dpV hE hP hS (ci := 12) rfl (dat13 k0)) rfl rfl hl.1 rfl (lv_room (Nat.le_of_ble_eq_true rfl)) dX12_at_3 ⟨Nat.le_of_ble_eq_true rfl, Nat.le_of_ble_eq_true rfl⟩) hS (fun H locs hP hS => ?_)
  refine lv_if_eq (tgt := 17) S.1 S.2.1 dX12_at_6 (by decide) (fun cq => ?_) (fun cq => ?_)
  · have h := d_t cq h
    refine lv_iconst (v := 1) S.1 S.2.1 dX12_at_17 (by decide) ?_
    refine lv_goto (tgt := 40) S.1 S.2.1 dX12_at_18 (by decide) ?_
    refine dpf12_25 S in12 hE hP hS k0 (S.2.2.2.2 (.fieldLink RX12 76 "DrillFieldModel" "thrown" "I") (List.mem_of_getElem? (i := 2) rfl)) dX12_at_40 (fun H locs hP hS => ?_)
    obtain ⟨m3, em3⟩ : ∃ z : dM, z = d1 m p0 25 1 := ⟨_, rfl⟩
    have h := d_let em3 h
    rw [← em3] at hP
    refine lv_aload_n S.1 S.2.1 dX12_at_43 rfl (lv_at hl 0 rfl) ?_
    refine dgf12_25 S in12 hE hP k0 (S.2.2.2.2 (.fieldLink RX12 76 "DrillFieldModel" "thrown" "I") (List.mem_of_getElem? (i := 2) rfl)) dX12_at_44 ?_
    refine d_top (v := 1) (by rw [em3]; exact d1_get) ?_
    refine lv_if_le (tgt := 54) S.1 S.2.1 dX12_at_47 (by decide) (fun cq => ?_) (fun cq => ?_)
    · exact absurd cq (by decide)
    · refine lv_iconst (v := 0) S.1 S.2.1 dX12_at_50 (by decide) ?_
      refine lv_goto (tgt := 73) S.1 S.2.1 dX12_at_51 (by decide) ?_
      obtain ⟨rfl, rfl⟩ := Prod.mk.inj (Option.some.inj h)
      exact dti S hr hlk hE hP hS rfl dX12_at_73
  · have h := d_f cq h
    refine lv_aload_n S.1 S.2.1 dX12_at_9 rfl (lv_at hl 0 rfl) ?_
    refine lv_iload_n S.1 S.2.1 dX12_at_10 rfl (lv_at hl 3 rfl) ?_
    obtain ⟨v5, hc4, h⟩ := d_b h
    refine dri (va_runV (As := [.int p3]) (rest := [.ref (dad g p0)]) S (kX12_isDot l g hc4) (cwV 1 S.2.2.2.2 gX12_at_X12_isDot rfl rfl rfl ynX12_isDot ⟨Nat.le_of_ble_eq_true rfl, Nat.le_of_ble_eq_true rfl⟩) (dpV hE hP hS (ci := 12) rfl (dat13 k0)) rfl rfl hl.1 rfl (lv_room (Nat.le_of_ble_eq_true rfl)) dX12_at_11 ⟨Nat.le_of_ble_eq_true rfl, Nat.le_of_ble_eq_true rfl⟩) hS (fun H locs hP hS => ?_)
    refine lv_if_ne (tgt := 21) S.1 S.2.1 dX12_at_14 (by decide) (fun cq => ?_) (fun cq => ?_)
    · have h := d_f cq h
      refine lv_iload_n S.1 S.2.1 dX12_at_21 rfl (lv_at hl 2 rfl) ?_
      refine lv_iconst (v := 0) S.1 S.2.1 dX12_at_22 (by decide) ?_
      refine lv_aload_n S.1 S.2.1 dX12_at_23 rfl (lv_at hl 0 rfl) ?_
      refine dgf12_10 S in12 hE hP k0 (S.2.2.2.2 (.fieldLink RX12 36 "DrillFieldModel" "counts" "[I") (List.mem_of_getElem? (i := 1) rfl)) dX12_at_24 ?_
      refine lv_iload_n S.1 S.2.1 dX12_at_27 rfl (lv_at hl 1 rfl) ?_
      obtain ⟨hi, h⟩ := d_g h
      refine d_iald S hE hP dk_452 hi dX12_at_28 ?_
      obtain ⟨v7, hc6, h⟩ := d_b h
      refine dri (va_runS (As := [.int p2, .int 0, .int (m.1 452 (Int32.toNatClampNeg (p1)))]) (rest := [.ref (dad g p0)]) S (kX12_isIn l g hc6) (va_cwS 3 S.2.2.2.2 gX12_at_X12_isIn rfl rfl rfl ynX12_isIn ⟨Nat.le_of_ble_eq_true rfl, Nat.le_of_ble_eq_true rfl⟩) (dpS hE hP hS) rfl rfl hl.1 rfl (lv_room (Nat.le_of_ble_eq_true rfl)) dX12_at_29 ⟨Nat.le_of_ble_eq_true rfl, Nat.le_of_ble_eq_true rfl⟩) hS (fun H locs hP hS => ?_)
      refine lv_if_ne (tgt := 39) S.1 S.2.1 dX12_at_32 (by decide) (fun cq => ?_) (fun cq => ?_)
      · have h := d_f cq h
        refine lv_iconst (v := 0) S.1 S.2.1 dX12_at_39 (by decide) ?_
        refine dpf12_25 S in12 hE hP hS k0 (S.2.2.2.2 (.fieldLink RX12 76 "DrillFieldModel" "thrown" "I") (List.mem_of_getElem? (i := 2) rfl)) dX12_at_40 (fun H locs hP hS => ?_)
        obtain ⟨m8, em8⟩ : ∃ z : dM, z = d1 m p0 25 0 := ⟨_, rfl⟩
        have h := d_let em8 h
        rw [← em8] at hP
        refine lv_aload_n S.1 S.2.1 dX12_at_43 rfl (lv_at hl 0 rfl) ?_
        refine dgf12_25 S in12 hE hP k0 (S.2.2.2.2 (.fieldLink RX12 76 "DrillFieldModel" "thrown" "I") (List.mem_of_getElem? (i := 2) rfl)) dX12_at_44 ?_
        refine d_top (v := 0) (by rw [em8]; exact d1_get) ?_
        refine lv_if_le (tgt := 54) S.1 S.2.1 dX12_at_47 (by decide) (fun cq => ?_) (fun cq => ?_)
        · refine lv_sipush (v := 2000) S.1 S.2.1 dX12_at_54 (by decide) ?_
          refine lv_aload_n S.1 S.2.1 dX12_at_57 rfl (lv_at hl 0 rfl) ?_
          refine lv_iload_n S.1 S.2.1 dX12_at_58 rfl (lv_at hl 1 rfl) ?_
          refine lv_iload_n S.1 S.2.1 dX12_at_59 rfl (lv_at hl 2 rfl) ?_
          refine lv_iload_n S.1 S.2.1 dX12_at_60 rfl (lv_at hl 3 rfl) ?_
          obtain ⟨v10, hc9, h⟩ := d_b h
          refine dri (va_runV (As := [.int p1, .int p2, .int p3]) (rest := [.int 2000]) S (kX12_xAt l g hc9) (cwV 3 S.2.2.2.2 gX12_at_X12_xAt rfl rfl rfl ynX12_xAt ⟨Nat.le_of_ble_eq_true rfl, Nat.le_of_ble_eq_true rfl⟩) (dpV hE hP hS (ci := 12) rfl (dat13 k0)) rfl rfl hl.1 rfl (lv_room (Nat.le_of_ble_eq_true rfl)) dX12_at_61 ⟨Nat.le_of_ble_eq_true rfl, Nat.le_of_ble_eq_true rfl⟩) hS (fun H locs hP hS => ?_)
          refine lv_imul S.1 S.2.1 dX12_at_64 ?_
          refine lv_aload_n S.1 S.2.1 dX12_at_65 rfl (lv_at hl 0 rfl) ?_
          refine lv_iload_n S.1 S.2.1 dX12_at_66 rfl (lv_at hl 1 rfl) ?_
          refine lv_iload_n S.1 S.2.1 dX12_at_67 rfl (lv_at hl 2 rfl) ?_
          refine lv_iload_n S.1 S.2.1 dX12_at_68 rfl (lv_at hl 3 rfl) ?_
          obtain ⟨v12, hc11, h⟩ := d_b h
          refine dri (va_runV (As := [.int p1, .int p2, .int p3]) (rest := [.int (2000 * v10)]) S (kX12_yAt l g hc11) (cwV 3 S.2.2.2.2 gX12_at_X12_yAt rfl rfl rfl ynX12_yAt ⟨Nat.le_of_ble_eq_true rfl, Nat.le_of_ble_eq_true rfl⟩) (dpV hE hP hS (ci := 12) rfl (dat13 k0)) rfl rfl hl.1 rfl (lv_room (Nat.le_of_ble_eq_true rfl)) dX12_at_69 ⟨Nat.le_of_ble_eq_true rfl, Nat.le_of_ble_eq_true rfl⟩) hS (fun H locs hP hS => ?_)
          refine lv_iadd S.1 S.2.1 dX12_at_72 ?_
          obtain ⟨rfl, rfl⟩ := Prod.mk.inj (Option.some.inj h)
          exact dti S hr hlk hE hP hS rfl dX12_at_73
        · exact absurd (by decide) cq
      · have h := d_t cq h
        refine lv_iconst (v := 2) S.1 S.2.1 dX12_at_35 (by decide) ?_
        refine lv_goto (tgt := 40) S.1 S.2.1 dX12_at_36 (by decide) ?_
        refine dpf12_25 S in12 hE hP hS k0 (S.2.2.2.2 (.fieldLink RX12 76 "DrillFieldModel" "thrown" "I") (List.mem_of_getElem? (i := 2) rfl)) dX12_at_40 (fun H locs hP hS => ?_)
        obtain ⟨m13, em13⟩ : ∃ z : dM, z = d1 m p0 25 2 := ⟨_, rfl⟩
        have h := d_let em13 h
        rw [← em13] at hP
        refine lv_aload_n S.1 S.2.1 dX12_at_43 rfl (lv_at hl 0 rfl) ?_
        refine dgf12_25 S in12 hE hP k0 (S.2.2.2.2 (.fieldLink RX12 76 "DrillFieldModel" "thrown" "I") (List.mem_of_getElem? (i := 2) rfl)) dX12_at_44 ?_
        refine d_top (v := 2) (by rw [em13]; exact d1_get) ?_
        refine lv_if_le (tgt := 54) S.1 S.2.1 dX12_at_47 (by decide) (fun cq => ?_) (fun cq => ?_)
        · exact absurd cq (by decide)
        · refine lv_iconst (v := 0) S.1 S.2.1 dX12_at_50 (by decide) ?_
          refine lv_goto (tgt := 73) S.1 S.2.1 dX12_at_51 (by decide) ?_
          obtain ⟨rfl, rfl⟩ := Prod.mk.inj (Option.some.inj h)
          exact dti S hr hlk hE hP hS rfl dX12_at_73
    · have h := d_t cq h
      refine lv_iconst (v := 1) S.1 S.2.1 dX12_at_17 (by decide) ?_
      refine lv_goto (tgt := 40) S.1 S.2.1 dX12_at_18 (by decide) ?_
      refine dpf12_25 S in12 hE hP hS k0 (S.2.2.2.2 (.fieldLink RX12 76 "DrillFieldModel" "thrown" "I") (List.mem_of_getElem? (i := 2) rfl)) dX12_at_40 (fun H locs hP hS => ?_)
      obtain ⟨m14, em14⟩ : ∃ z : dM, z = d1 m p0 25 1 := ⟨_, rfl⟩
      have h := d_let em14 h
      rw [← em14] at hP
      refine lv_aload_n S.1 S.2.1 dX12_at_43 rfl (lv_at hl 0 rfl) ?_
      refine dgf12_25 S in12 hE hP k0 (S.2.2.2.2 (.fieldLink RX12 76 "DrillFieldModel" "thrown" "I") (List.mem_of_getElem? (i := 2) rfl)) dX12_at_44 ?_
      refine d_top (v := 1) (by rw [em14]; exact d1_get) ?_
      refine lv_if_le (tgt := 54) S.1 S.2.1 dX12_at_47 (by decide) (fun cq => ?_) (fun cq => ?_)
      · exact absurd cq (by decide)
      · refine lv_iconst (v := 0) S.1 S.2.1 dX12_at_50 (by decide) ?_
        refine lv_goto (tgt := 73) S.1 S.2.1 dX12_at_51 (by decide) ?_
        obtain ⟨rfl, rfl⟩ := Prod.mk.inj (Option.some.inj h)
        exact dti S hr hlk hE hP hS rfl dX12_at_73
theorem dX12_begins_0 : decode cX12_begins 0 = .ok (.iconst 0, 1) := by decide +kernel
theorem dX12_begins_1 : decode cX12_begins 1 = .ok (.istore_n 1, 1) := by decide +kernel
theorem dX12_begins_2 : decode cX12_begins 2 = .ok (.iload_n 1, 1) := by decide +kernel
theorem dX12_begins_3 : decode cX12_begins 3 = .ok (.bipush 10, 2) := by decide +kernel
theorem dX12_begins_5 : decode cX12_begins 5 = .ok (.if_icmp .ge 24, 3) := by decide +kernel
theorem dX12_begins_8 : decode cX12_begins 8 = .ok (.aload_n 0, 1) := by decide +kernel
theorem dX12_begins_9 : decode cX12_begins 9 = .ok (.getfield 13, 3) := by decide +kernel
theorem dX12_begins_12 : decode cX12_begins 12 = .ok (.iload_n 1, 1) := by decide +kernel
theorem dX12_begins_13 : decode cX12_begins 13 = .ok (.bipush 14, 2) := by decide +kernel
theorem dX12_begins_15 : decode cX12_begins 15 = .ok (.iastore, 1) := by decide +kernel
theorem dX12_begins_16 : decode cX12_begins 16 = .ok (.aload_n 0, 1) := by decide +kernel
theorem dX12_begins_17 : decode cX12_begins 17 = .ok (.getfield 17, 3) := by decide +kernel
theorem dX12_begins_20 : decode cX12_begins 20 = .ok (.iload_n 1, 1) := by decide +kernel
theorem dX12_begins_21 : decode cX12_begins 21 = .ok (.iconst 0, 1) := by decide +kernel
theorem dX12_begins_22 : decode cX12_begins 22 = .ok (.bastore, 1) := by decide +kernel
theorem dX12_begins_23 : decode cX12_begins 23 = .ok (.iinc 1 1, 3) := by decide +kernel
theorem dX12_begins_26 : decode cX12_begins 26 = .ok (.goto (-24), 3) := by decide +kernel
theorem dX12_begins_29 : decode cX12_begins 29 = .ok (.iconst 0, 1) := by decide +kernel
theorem dX12_begins_30 : decode cX12_begins 30 = .ok (.istore_n 1, 1) := by decide +kernel
theorem dX12_begins_31 : decode cX12_begins 31 = .ok (.iload_n 1, 1) := by decide +kernel
theorem dX12_begins_32 : decode cX12_begins 32 = .ok (.iconst 3, 1) := by decide +kernel
theorem dX12_begins_33 : decode cX12_begins 33 = .ok (.if_icmp .ge 23, 3) := by decide +kernel
theorem dX12_begins_36 : decode cX12_begins 36 = .ok (.aload_n 0, 1) := by decide +kernel
theorem dX12_begins_37 : decode cX12_begins 37 = .ok (.getfield 21, 3) := by decide +kernel
theorem dX12_begins_40 : decode cX12_begins 40 = .ok (.iload_n 1, 1) := by decide +kernel
theorem dX12_begins_41 : decode cX12_begins 41 = .ok (.iconst (-1), 1) := by decide +kernel
theorem dX12_begins_42 : decode cX12_begins 42 = .ok (.iastore, 1) := by decide +kernel
theorem dX12_begins_43 : decode cX12_begins 43 = .ok (.aload_n 0, 1) := by decide +kernel
theorem dX12_begins_44 : decode cX12_begins 44 = .ok (.getfield 24, 3) := by decide +kernel
theorem dX12_begins_47 : decode cX12_begins 47 = .ok (.iload_n 1, 1) := by decide +kernel
theorem dX12_begins_48 : decode cX12_begins 48 = .ok (.iconst 0, 1) := by decide +kernel
theorem dX12_begins_49 : decode cX12_begins 49 = .ok (.bastore, 1) := by decide +kernel
theorem dX12_begins_50 : decode cX12_begins 50 = .ok (.iinc 1 1, 3) := by decide +kernel
theorem dX12_begins_53 : decode cX12_begins 53 = .ok (.goto (-22), 3) := by decide +kernel
theorem dX12_begins_56 : decode cX12_begins 56 = .ok (.return_, 1) := by decide +kernel
def fX12_begins_l2  (v2 : Int32) (m3 : dM) : Option ((Int32 × dM) ⊕ dM) := if 10 ≤ v2 then some (.inr m3) else dg (dIx v2 (dL 445)) (dlet (d1 m3 445 (Int32.toNatClampNeg (v2)) 14) (fun m7 => dg (dIx v2 (dL 446)) (dlet (d1 m7 446 (Int32.toNatClampNeg (v2)) 0) (fun m8 => dlet (v2 + 1 : Int32) (fun v9 => some (.inl (v9, m8)))))))
def fX12_begins_l31  (v12 : Int32) (m13 : dM) : Option ((Int32 × dM) ⊕ dM) := if 3 ≤ v12 then some (.inr m13) else dg (dIx v12 (dL 447)) (dlet (d1 m13 447 (Int32.toNatClampNeg (v12)) (-1)) (fun m17 => dg (dIx v12 (dL 448)) (dlet (d1 m17 448 (Int32.toNatClampNeg (v12)) 0) (fun m18 => dlet (v12 + 1 : Int32) (fun v19 => some (.inl (v19, m18)))))))
def fX12_begins (m : dM) (p0 : Nat) : Option dM := dg (dkg p0 13) ((dlp (fun q => dP2 q (fun v2 m3 => fX12_begins_l2 v2 m3)) dFl (0, m)).bind (fun q => dP1 q (fun m10 => (dlp (fun q => dP2 q (fun v12 m13 => fX12_begins_l31 v12 m13)) dFl (0, m10)).bind (fun q => dP1 q (fun m20 => some m20)))))
set_option maxHeartbeats 4000000 in
set_option maxRecDepth 100000 in
theorem kX12_begins (l : Launch) (g : dG) {m : dM} {p0 : Nat} {m0 : dM} (h : fX12_begins m p0 = some m0) : dMet l g yX12_begins wsX12_begins (dRm 0 0) [.ref (dad g p0)] m (dQV g m0) := by
  refine dof (cc := cX12_begins) (maxL := 2) (ret := none) _ (plainFor_of_name (by decide)) rfl (Nat.le_of_ble_eq_true rfl) ?_
  intro p e s mth below meth c S hr hlk hE H ls hP hS hl
  have S : CallFix p mth c cX12_begins 2 s _ wsX12_begins RX12 := S
  have hl : lv_has ls 2 [(0, .ref (dad g p0))] := hl
  obtain ⟨locs, hlocs⟩ : ∃ z : List Loc, z = [] := ⟨_, rfl⟩
  rw [← hlocs] at hS ⊢
  have in12 : ∀ w ∈ wsX120, w ∈ wsX12_begins := by decide +kernel
  unfold fX12_begins at h
  obtain ⟨k0, h⟩ := d_g h
  have k0 := d_k k0
  refine lv_iconst (v := 0) S.1 S.2.1 dX12_begins_0 (by decide) ?_
  refine lv_istore_n (lv' := [(1, .int 0), (0, .ref (dad g p0))]) S.1 S.2.1 dX12_begins_1 rfl hl (by decide) rfl (fun ls hl => ?_)
  obtain ⟨qL1, hqL1, h⟩ := d_b h
  refine d_lp (Hd := fun q => match q with | (v2, m3) => ∀ (H : Heap) (locs : List Loc) (ls : Array Slot), va_P g.1 vwCl (dws g m3) H → va_S (dA g) s.heap H locs → lv_has ls 2 [(1, .int v2), (0, .ref (dad g p0))] → W p l e (headSpec wsX12_begins (dRm 0 0)).room s mth (([.ref (dad g p0)] : List Value).toArray) below meth c H locs 0 0 (MQ below (dQV g m0) (([.ref (dad g p0)] : List Value).toArray) s 0 0 (dA g)) (F0 mth 2 ls [])) (K := fun q => (fun (m10 : _) => ∀ (H : Heap) (locs : List Loc) (ls : Array Slot), va_P g.1 vwCl (dws g m10) H → va_S (dA g) s.heap H locs → lv_has ls 2 [(0, .ref (dad g p0))] → W p l e (headSpec wsX12_begins (dRm 0 0)).room s mth (([.ref (dad g p0)] : List Value).toArray) below meth c H locs 0 0 (MQ below (dQV g m0) (([.ref (dad g p0)] : List Value).toArray) s 0 0 (dA g)) (F0 mth 29 ls [])) q) ?_ dFl _ qL1 hqL1 ?_ H locs ls hP hS (lv_sub hl [0, 1] rfl)
  · intro q o h hCL1 hEL1
    obtain ⟨v2, m3⟩ := q
    have h : fX12_begins_l2 v2 m3 = some o := h
    intro H locs ls hP hS hl
    have hP : va_P g.1 vwCl (dws g m3) H := hP
    have hl : lv_has ls 2 [(1, .int v2), (0, .ref (dad g p0))] := hl
    unfold fX12_begins_l2 at h
    refine lv_iload_n S.1 S.2.1 dX12_begins_2 rfl (lv_at hl 0 rfl) ?_
    refine lv_bipush (v := 10) S.1 S.2.1 dX12_begins_3 (by decide) ?_
    refine lv_icmp_ge (tgt := 29) S.1 S.2.1 dX12_begins_5 (by decide) (fun cq => ?_) (fun cq => ?_)
    · have h := d_t cq h
      obtain rfl := Option.some.inj h
      exact hEL1 _ rfl H locs ls hP hS (lv_sub hl [1] rfl)
    · have h := d_f cq h
      refine lv_aload_n S.1 S.2.1 dX12_begins_8 rfl (lv_at hl 1 rfl) ?_
      refine dgf12_1 S in12 hE hP k0 (S.2.2.2.2 (.fieldLink RX12 13 "DrillFieldModel" "legs" "[I") (List.mem_of_getElem? (i := 1) rfl)) dX12_begins_9 ?_
      refine lv_iload_n S.1 S.2.1 dX12_begins_12 rfl (lv_at hl 0 rfl) ?_
      refine lv_bipush (v := 14) S.1 S.2.1 dX12_begins_13 (by decide) ?_
      obtain ⟨hi, h⟩ := d_g h
      refine d_iast S hE hP hS dk_445 hi dX12_begins_15 (fun H locs hP hS => ?_)
      obtain ⟨m7, em7⟩ : ∃ z : dM, z = d1 m3 445 (Int32.toNatClampNeg (v2)) 14 := ⟨_, rfl⟩
      have h := d_let em7 h
      rw [← em7] at hP
      refine lv_aload_n S.1 S.2.1 dX12_begins_16 rfl (lv_at hl 1 rfl) ?_
      refine dgf12_2 S in12 hE hP k0 (S.2.2.2.2 (.fieldLink RX12 17 "DrillFieldModel" "ill" "[Z") (List.mem_of_getElem? (i := 2) rfl)) dX12_begins_17 ?_
      refine lv_iload_n S.1 S.2.1 dX12_begins_20 rfl (lv_at hl 0 rfl) ?_
      refine lv_iconst (v := 0) S.1 S.2.1 dX12_begins_21 (by decide) ?_
      obtain ⟨hi, h⟩ := d_g h
      refine d_zast S hE hP hS dk_446 hi (by decide) dX12_begins_22 (fun H locs hP hS => ?_)
      obtain ⟨m8, em8⟩ : ∃ z : dM, z = d1 m7 446 (Int32.toNatClampNeg (v2)) 0 := ⟨_, rfl⟩
      have h := d_let em8 h
      rw [← em8] at hP
      obtain ⟨v9, ev9⟩ : ∃ z : Int32, z = v2 + 1 := ⟨_, rfl⟩
      have h := d_let ev9 h
      refine lv_iinc (v := v9) (lv' := [(1, .int v9), (0, .ref (dad g p0))]) S.1 S.2.1 dX12_begins_23 hl (k := 0) rfl (by rw [ev9]; rfl) (by decide) rfl (fun ls hl => ?_)
      refine lv_goto (tgt := 2) S.1 S.2.1 dX12_begins_26 (by decide) ?_
      obtain rfl := Option.some.inj h
      exact hCL1 _ rfl H locs ls hP hS (lv_sub hl [0, 1] rfl)
  · obtain ⟨m10, rfl⟩ : ∃ z, z = qL1 := ⟨_, rfl⟩
    have h := d_p1 h
    intro H locs ls hP hS hl
    have hP : va_P g.1 vwCl (dws g m10) H := hP
    have hl : lv_has ls 2 [(0, .ref (dad g p0))] := hl
    refine lv_iconst (v := 0) S.1 S.2.1 dX12_begins_29 (by decide) ?_
    refine lv_istore_n (lv' := [(1, .int 0), (0, .ref (dad g p0))]) S.1 S.2.1 dX12_begins_30 rfl hl (by decide) rfl (fun ls hl => ?_)
    obtain ⟨qL11, hqL11, h⟩ := d_b h
    refine d_lp (Hd := fun q => match q with | (v12, m13) => ∀ (H : Heap) (locs : List Loc) (ls : Array Slot), va_P g.1 vwCl (dws g m13) H → va_S (dA g) s.heap H locs → lv_has ls 2 [(1, .int v12), (0, .ref (dad g p0))] → W p l e (headSpec wsX12_begins (dRm 0 0)).room s mth (([.ref (dad g p0)] : List Value).toArray) below meth c H locs 0 0 (MQ below (dQV g m0) (([.ref (dad g p0)] : List Value).toArray) s 0 0 (dA g)) (F0 mth 31 ls [])) (K := fun q => (fun (m20 : _) => ∀ (H : Heap) (locs : List Loc) (ls : Array Slot), va_P g.1 vwCl (dws g m20) H → va_S (dA g) s.heap H locs → lv_has ls 2 [] → W p l e (headSpec wsX12_begins (dRm 0 0)).room s mth (([.ref (dad g p0)] : List Value).toArray) below meth c H locs 0 0 (MQ below (dQV g m0) (([.ref (dad g p0)] : List Value).toArray) s 0 0 (dA g)) (F0 mth 56 ls [])) q) ?_ dFl _ qL11 hqL11 ?_ H locs ls hP hS (lv_sub hl [0, 1] rfl)
    · intro q o h hCL11 hEL11
      obtain ⟨v12, m13⟩ := q
      have h : fX12_begins_l31 v12 m13 = some o := h
      intro H locs ls hP hS hl
      have hP : va_P g.1 vwCl (dws g m13) H := hP
      have hl : lv_has ls 2 [(1, .int v12), (0, .ref (dad g p0))] := hl
      unfold fX12_begins_l31 at h
      refine lv_iload_n S.1 S.2.1 dX12_begins_31 rfl (lv_at hl 0 rfl) ?_
      refine lv_iconst (v := 3) S.1 S.2.1 dX12_begins_32 (by decide) ?_
      refine lv_icmp_ge (tgt := 56) S.1 S.2.1 dX12_begins_33 (by decide) (fun cq => ?_) (fun cq => ?_)
      · have h := d_t cq h
        obtain rfl := Option.some.inj h
        exact hEL11 _ rfl H locs ls hP hS (lv_sub hl [] rfl)
      · have h := d_f cq h
        refine lv_aload_n S.1 S.2.1 dX12_begins_36 rfl (lv_at hl 1 rfl) ?_
        refine dgf12_3 S in12 hE hP k0 (S.2.2.2.2 (.fieldLink RX12 21 "DrillFieldModel" "knows" "[I") (List.mem_of_getElem? (i := 3) rfl)) dX12_begins_37 ?_
        refine lv_iload_n S.1 S.2.1 dX12_begins_40 rfl (lv_at hl 0 rfl) ?_
        refine lv_iconst (v := (-1)) S.1 S.2.1 dX12_begins_41 (by decide) ?_
        obtain ⟨hi, h⟩ := d_g h
        refine d_iast S hE hP hS dk_447 hi dX12_begins_42 (fun H locs hP hS => ?_)
        obtain ⟨m17, em17⟩ : ∃ z : dM, z = d1 m13 447 (Int32.toNatClampNeg (v12)) (-1) := ⟨_, rfl⟩
        have h := d_let em17 h
        rw [← em17] at hP
        refine lv_aload_n S.1 S.2.1 dX12_begins_43 rfl (lv_at hl 1 rfl) ?_
        refine dgf12_4 S in12 hE hP k0 (S.2.2.2.2 (.fieldLink RX12 24 "DrillFieldModel" "illOne" "[Z") (List.mem_of_getElem? (i := 4) rfl)) dX12_begins_44 ?_
        refine lv_iload_n S.1 S.2.1 dX12_begins_47 rfl (lv_at hl 0 rfl) ?_
        refine lv_iconst (v := 0) S.1 S.2.1 dX12_begins_48 (by decide) ?_
        obtain ⟨hi, h⟩ := d_g h
        refine d_zast S hE hP hS dk_448 hi (by decide) dX12_begins_49 (fun H locs hP hS => ?_)
        obtain ⟨m18, em18⟩ : ∃ z : dM, z = d1 m17 448 (Int32.toNatClampNeg (v12)) 0 := ⟨_, rfl⟩
        have h := d_let em18 h
        rw [← em18] at hP
        obtain ⟨v19, ev19⟩ : ∃ z : Int32, z = v12 + 1 := ⟨_, rfl⟩
        have h := d_let ev19 h
        refine lv_iinc (v := v19) (lv' := [(1, .int v19), (0, .ref (dad g p0))]) S.1 S.2.1 dX12_begins_50 hl (k := 0) rfl (by rw [ev19]; rfl) (by decide) rfl (fun ls hl => ?_)
        refine lv_goto (tgt := 31) S.1 S.2.1 dX12_begins_53 (by decide) ?_
        obtain rfl := Option.some.inj h
        exact hCL11 _ rfl H locs ls hP hS (lv_sub hl [0, 1] rfl)
    · obtain ⟨m20, rfl⟩ : ∃ z, z = qL11 := ⟨_, rfl⟩
      have h := d_p1 h
      intro H locs ls hP hS hl
      have hP : va_P g.1 vwCl (dws g m20) H := hP
      have hl : lv_has ls 2 [] := hl
      obtain rfl := Option.some.inj h
      exact dtv S hr hlk hE hP hS dX12_begins_56
set_option maxRecDepth 20000 in
theorem ggX12_band_X12_isIn : GoodIn wsX12_band wsX12_isIn := goodIn_r _ [7] (by decide +kernel) (by decide +kernel)
set_option maxRecDepth 20000 in
theorem gX12_band_X12_isIn : GoodIn wsX12_band (va_wsS RX12 79 yX12_isIn wsX12_isIn) := goodIn_app (goodIn_of _ (by decide +kernel)) ggX12_band_X12_isIn
set_option maxRecDepth 20000 in
theorem ggX12_band_X12_begins : GoodIn wsX12_band wsX12_begins := goodIn_r _ [11, 12, 13, 14, 15, 16, 17, 18, 19, 20, 21, 22, 23, 24, 25, 26, 27, 28, 29, 30, 31, 32, 33, 34, 35, 36, 37, 38, 39, 40, 41, 42, 43] (by decide +kernel) (by decide +kernel)
set_option maxRecDepth 20000 in
theorem gX12_band_X12_begins : GoodIn wsX12_band (wsV RX12 73 RX12 yX12_begins wsX12_begins) := goodIn_app (goodIn_of _ (by decide +kernel)) ggX12_band_X12_begins
theorem dX12_band_0 : decode cX12_band 0 = .ok (.aload_n 0, 1) := by decide +kernel
theorem dX12_band_1 : decode cX12_band 1 = .ok (.iload_n 1, 1) := by decide +kernel
theorem dX12_band_2 : decode cX12_band 2 = .ok (.iconst 2, 1) := by decide +kernel
theorem dX12_band_3 : decode cX12_band 3 = .ok (.bipush 10, 2) := by decide +kernel
theorem dX12_band_5 : decode cX12_band 5 = .ok (.invokestatic 79, 3) := by decide +kernel
theorem dX12_band_8 : decode cX12_band 8 = .ok (.ifCond .ne 7, 3) := by decide +kernel
theorem dX12_band_11 : decode cX12_band 11 = .ok (.iconst 1, 1) := by decide +kernel
theorem dX12_band_12 : decode cX12_band 12 = .ok (.goto 15, 3) := by decide +kernel
theorem dX12_band_15 : decode cX12_band 15 = .ok (.aload_n 0, 1) := by decide +kernel
theorem dX12_band_16 : decode cX12_band 16 = .ok (.getfield 86, 3) := by decide +kernel
theorem dX12_band_19 : decode cX12_band 19 = .ok (.ifCond .le 7, 3) := by decide +kernel
theorem dX12_band_22 : decode cX12_band 22 = .ok (.iconst 2, 1) := by decide +kernel
theorem dX12_band_23 : decode cX12_band 23 = .ok (.goto 4, 3) := by decide +kernel
theorem dX12_band_26 : decode cX12_band 26 = .ok (.iconst 0, 1) := by decide +kernel
theorem dX12_band_27 : decode cX12_band 27 = .ok (.putfield 76, 3) := by decide +kernel
theorem dX12_band_30 : decode cX12_band 30 = .ok (.aload_n 0, 1) := by decide +kernel
theorem dX12_band_31 : decode cX12_band 31 = .ok (.getfield 76, 3) := by decide +kernel
theorem dX12_band_34 : decode cX12_band 34 = .ok (.ifCond .ne 12, 3) := by decide +kernel
theorem dX12_band_37 : decode cX12_band 37 = .ok (.aload_n 0, 1) := by decide +kernel
theorem dX12_band_38 : decode cX12_band 38 = .ok (.iload_n 1, 1) := by decide +kernel
theorem dX12_band_39 : decode cX12_band 39 = .ok (.putfield 7, 3) := by decide +kernel
theorem dX12_band_42 : decode cX12_band 42 = .ok (.aload_n 0, 1) := by decide +kernel
theorem dX12_band_43 : decode cX12_band 43 = .ok (.invokevirtual 73, 3) := by decide +kernel
theorem dX12_band_46 : decode cX12_band 46 = .ok (.return_, 1) := by decide +kernel
def fX12_band (m : dM) (p0 : Nat) (p1 : Int32) : Option dM := dg (dkg p0 13) ((fX12_isIn m p1 2 10).bind (fun v2 => if v2 = 0 then dlet (d1 m p0 25 1) (fun m8 => some m8) else if (m.1 p0 5) ≤ 0 then dlet (d1 m p0 25 0) (fun m3 => dlet (d1 m3 p0 0 p1) (fun m4 => (fX12_begins m4 p0).bind (fun m6 => some m6))) else dlet (d1 m p0 25 2) (fun m7 => some m7)))
set_option maxHeartbeats 4000000 in
set_option maxRecDepth 100000 in
theorem kX12_band (l : Launch) (g : dG) {m : dM} {p0 : Nat} {p1 : Int32} {m0 : dM} (h : fX12_band m p0 p1 = some m0) : dMet l g yX12_band wsX12_band (dRm 1 22) [.ref (dad g p0), .int p1] m (dQV g m0) := by
  refine dof (cc := cX12_band) (maxL := 2) (ret := none) _ (plainFor_of_name (by decide)) rfl (Nat.le_of_ble_eq_true rfl) ?_
  intro p e s mth below meth c S hr hlk hE H ls hP hS hl
  have S : CallFix p mth c cX12_band 2 s _ wsX12_band RX12 := S
  have hl : lv_has ls 2 [(0, .ref (dad g p0)), (1, .int p1)] := hl
  obtain ⟨locs, hlocs⟩ : ∃ z : List Loc, z = [] := ⟨_, rfl⟩
  rw [← hlocs] at hS ⊢
  have in12 : ∀ w ∈ wsX120, w ∈ wsX12_band := by decide +kernel
  unfold fX12_band at h
  obtain ⟨k0, h⟩ := d_g h
  have k0 := d_k k0
  refine lv_aload_n S.1 S.2.1 dX12_band_0 rfl (lv_at hl 0 rfl) ?_
  refine lv_iload_n S.1 S.2.1 dX12_band_1 rfl (lv_at hl 1 rfl) ?_
  refine lv_iconst (v := 2) S.1 S.2.1 dX12_band_2 (by decide) ?_
  refine lv_bipush (v := 10) S.1 S.2.1 dX12_band_3 (by decide) ?_
  obtain ⟨v2, hc1, h⟩ := d_b h
  refine dri (va_runS (As := [.int p1, .int 2, .int 10]) (rest := [.ref (dad g p0)]) S (kX12_isIn l g hc1) (va_cwS 3 S.2.2.2.2 gX12_band_X12_isIn rfl rfl rfl ynX12_isIn ⟨Nat.le_of_ble_eq_true rfl, Nat.le_of_ble_eq_true rfl⟩) (dpS hE hP hS) rfl rfl hl.1 rfl (lv_room (Nat.le_of_ble_eq_true rfl)) dX12_band_5 ⟨Nat.le_of_ble_eq_true rfl, Nat.le_of_ble_eq_true rfl⟩) hS (fun H locs hP hS => ?_)
  refine lv_if_ne (tgt := 15) S.1 S.2.1 dX12_band_8 (by decide) (fun cq => ?_) (fun cq => ?_)
  · have h := d_f cq h
    refine lv_aload_n S.1 S.2.1 dX12_band_15 rfl (lv_at hl 0 rfl) ?_
    refine dgf12_5 S in12 hE hP k0 (S.2.2.2.2 (.fieldLink RX12 86 "DrillFieldModel" "sets" "I") (List.mem_of_getElem? (i := 1) rfl)) dX12_band_16 ?_
    refine lv_if_le (tgt := 26) S.1 S.2.1 dX12_band_19 (by decide) (fun cq => ?_) (fun cq => ?_)
    · have h := d_t cq h
      refine lv_iconst (v := 0) S.1 S.2.1 dX12_band_26 (by decide) ?_
      refine dpf12_25 S in12 hE hP hS k0 (S.2.2.2.2 (.fieldLink RX12 76 "DrillFieldModel" "thrown" "I") (List.mem_of_getElem? (i := 2) rfl)) dX12_band_27 (fun H locs hP hS => ?_)
      obtain ⟨m3, em3⟩ : ∃ z : dM, z = d1 m p0 25 0 := ⟨_, rfl⟩
      have h := d_let em3 h
      rw [← em3] at hP
      refine lv_aload_n S.1 S.2.1 dX12_band_30 rfl (lv_at hl 0 rfl) ?_
      refine dgf12_25 S in12 hE hP k0 (S.2.2.2.2 (.fieldLink RX12 76 "DrillFieldModel" "thrown" "I") (List.mem_of_getElem? (i := 2) rfl)) dX12_band_31 ?_
      refine d_top (v := 0) (by rw [em3]; exact d1_get) ?_
      refine lv_if_ne (tgt := 46) S.1 S.2.1 dX12_band_34 (by decide) (fun cq => ?_) (fun cq => ?_)
      · exact absurd (by decide) cq
      · refine lv_aload_n S.1 S.2.1 dX12_band_37 rfl (lv_at hl 0 rfl) ?_
        refine lv_iload_n S.1 S.2.1 dX12_band_38 rfl (lv_at hl 1 rfl) ?_
        refine dpf12_0 S in12 hE hP hS k0 (S.2.2.2.2 (.fieldLink RX12 7 "DrillFieldModel" "dots" "I") (List.mem_of_getElem? (i := 3) rfl)) dX12_band_39 (fun H locs hP hS => ?_)
        obtain ⟨m4, em4⟩ : ∃ z : dM, z = d1 m3 p0 0 p1 := ⟨_, rfl⟩
        have h := d_let em4 h
        rw [← em4] at hP
        refine lv_aload_n S.1 S.2.1 dX12_band_42 rfl (lv_at hl 0 rfl) ?_
        obtain ⟨m6, hc5, h⟩ := d_b h
        refine drv (va_runV (As := []) (rest := []) S (kX12_begins l g hc5) (cwV 0 S.2.2.2.2 gX12_band_X12_begins rfl rfl rfl ynX12_begins ⟨Nat.le_of_ble_eq_true rfl, Nat.le_of_ble_eq_true rfl⟩) (dpV hE hP hS (ci := 12) rfl (dat13 k0)) rfl rfl hl.1 rfl (lv_room (Nat.le_of_ble_eq_true rfl)) dX12_band_43 ⟨Nat.le_of_ble_eq_true rfl, Nat.le_of_ble_eq_true rfl⟩) hS (fun H locs hP hS => ?_)
        obtain rfl := Option.some.inj h
        exact dtv S hr hlk hE hP hS dX12_band_46
    · have h := d_f cq h
      refine lv_iconst (v := 2) S.1 S.2.1 dX12_band_22 (by decide) ?_
      refine lv_goto (tgt := 27) S.1 S.2.1 dX12_band_23 (by decide) ?_
      refine dpf12_25 S in12 hE hP hS k0 (S.2.2.2.2 (.fieldLink RX12 76 "DrillFieldModel" "thrown" "I") (List.mem_of_getElem? (i := 2) rfl)) dX12_band_27 (fun H locs hP hS => ?_)
      obtain ⟨m7, em7⟩ : ∃ z : dM, z = d1 m p0 25 2 := ⟨_, rfl⟩
      have h := d_let em7 h
      rw [← em7] at hP
      refine lv_aload_n S.1 S.2.1 dX12_band_30 rfl (lv_at hl 0 rfl) ?_
      refine dgf12_25 S in12 hE hP k0 (S.2.2.2.2 (.fieldLink RX12 76 "DrillFieldModel" "thrown" "I") (List.mem_of_getElem? (i := 2) rfl)) dX12_band_31 ?_
      refine d_top (v := 2) (by rw [em7]; exact d1_get) ?_
      refine lv_if_ne (tgt := 46) S.1 S.2.1 dX12_band_34 (by decide) (fun cq => ?_) (fun cq => ?_)
      · obtain rfl := Option.some.inj h
        exact dtv S hr hlk hE hP hS dX12_band_46
      · exact absurd cq (by decide)
  · have h := d_t cq h
    refine lv_iconst (v := 1) S.1 S.2.1 dX12_band_11 (by decide) ?_
    refine lv_goto (tgt := 27) S.1 S.2.1 dX12_band_12 (by decide) ?_
    refine dpf12_25 S in12 hE hP hS k0 (S.2.2.2.2 (.fieldLink RX12 76 "DrillFieldModel" "thrown" "I") (List.mem_of_getElem? (i := 2) rfl)) dX12_band_27 (fun H locs hP hS => ?_)
    obtain ⟨m8, em8⟩ : ∃ z : dM, z = d1 m p0 25 1 := ⟨_, rfl⟩
    have h := d_let em8 h
    rw [← em8] at hP
    refine lv_aload_n S.1 S.2.1 dX12_band_30 rfl (lv_at hl 0 rfl) ?_
    refine dgf12_25 S in12 hE hP k0 (S.2.2.2.2 (.fieldLink RX12 76 "DrillFieldModel" "thrown" "I") (List.mem_of_getElem? (i := 2) rfl)) dX12_band_31 ?_
    refine d_top (v := 1) (by rw [em8]; exact d1_get) ?_
    refine lv_if_ne (tgt := 46) S.1 S.2.1 dX12_band_34 (by decide) (fun cq => ?_) (fun cq => ?_)
    · obtain rfl := Option.some.inj h
      exact dtv S hr hlk hE hP hS dX12_band_46
    · exact absurd cq (by decide)
set_option maxRecDepth 20000 in
theorem ggX12_isOnField_X12_isIn : GoodIn wsX12_isOnField wsX12_isIn := goodIn_r _ [4] (by decide +kernel) (by decide +kernel)
set_option maxRecDepth 20000 in
theorem gX12_isOnField_X12_isIn : GoodIn wsX12_isOnField (va_wsS RX12 79 yX12_isIn wsX12_isIn) := goodIn_app (goodIn_of _ (by decide +kernel)) ggX12_isOnField_X12_isIn
theorem dX12_isOnField_0 : decode cX12_isOnField 0 = .ok (.iload_n 0, 1) := by decide +kernel
theorem dX12_isOnField_1 : decode cX12_isOnField 1 = .ok (.iconst 0, 1) := by decide +kernel
theorem dX12_isOnField_2 : decode cX12_isOnField 2 = .ok (.sipush 1600, 3) := by decide +kernel
theorem dX12_isOnField_5 : decode cX12_isOnField 5 = .ok (.invokestatic 79, 3) := by decide +kernel
theorem dX12_isOnField_8 : decode cX12_isOnField 8 = .ok (.ifCond .eq 18, 3) := by decide +kernel
theorem dX12_isOnField_11 : decode cX12_isOnField 11 = .ok (.iload_n 1, 1) := by decide +kernel
theorem dX12_isOnField_12 : decode cX12_isOnField 12 = .ok (.iconst 0, 1) := by decide +kernel
theorem dX12_isOnField_13 : decode cX12_isOnField 13 = .ok (.sipush 840, 3) := by decide +kernel
theorem dX12_isOnField_16 : decode cX12_isOnField 16 = .ok (.invokestatic 79, 3) := by decide +kernel
theorem dX12_isOnField_19 : decode cX12_isOnField 19 = .ok (.ifCond .eq 7, 3) := by decide +kernel
theorem dX12_isOnField_22 : decode cX12_isOnField 22 = .ok (.iconst 1, 1) := by decide +kernel
theorem dX12_isOnField_23 : decode cX12_isOnField 23 = .ok (.goto 4, 3) := by decide +kernel
theorem dX12_isOnField_26 : decode cX12_isOnField 26 = .ok (.iconst 0, 1) := by decide +kernel
theorem dX12_isOnField_27 : decode cX12_isOnField 27 = .ok (.ireturn, 1) := by decide +kernel
def fX12_isOnField (m : dM) (p0 : Int32) (p1 : Int32) : Option Int32 := (fX12_isIn m p0 0 1600).bind (fun v2 => if v2 = 0 then some 0 else (fX12_isIn m p1 0 840).bind (fun v4 => if v4 = 0 then some 0 else some 1))
set_option maxHeartbeats 4000000 in
set_option maxRecDepth 100000 in
theorem kX12_isOnField (l : Launch) (g : dG) {m : dM} {p0 : Int32} {p1 : Int32} {r0 : Int32} (h : fX12_isOnField m p0 p1 = some r0) : dMet l g yX12_isOnField wsX12_isOnField (dRm 1 22) [.int p0, .int p1] m (dQI g r0 m) := by
  refine dof (cc := cX12_isOnField) (maxL := 2) (ret := (some .boolean)) _ (plainFor_of_name (by decide)) rfl (Nat.le_of_ble_eq_true rfl) ?_
  intro p e s mth below meth c S hr hlk hE H ls hP hS hl
  have S : CallFix p mth c cX12_isOnField 2 s _ wsX12_isOnField RX12 := S
  have hl : lv_has ls 2 [(0, .int p0), (1, .int p1)] := hl
  obtain ⟨locs, hlocs⟩ : ∃ z : List Loc, z = [] := ⟨_, rfl⟩
  rw [← hlocs] at hS ⊢
  unfold fX12_isOnField at h
  refine lv_iload_n S.1 S.2.1 dX12_isOnField_0 rfl (lv_at hl 0 rfl) ?_
  refine lv_iconst (v := 0) S.1 S.2.1 dX12_isOnField_1 (by decide) ?_
  refine lv_sipush (v := 1600) S.1 S.2.1 dX12_isOnField_2 (by decide) ?_
  obtain ⟨v2, hc1, h⟩ := d_b h
  refine dri (va_runS (As := [.int p0, .int 0, .int 1600]) (rest := []) S (kX12_isIn l g hc1) (va_cwS 3 S.2.2.2.2 gX12_isOnField_X12_isIn rfl rfl rfl ynX12_isIn ⟨Nat.le_of_ble_eq_true rfl, Nat.le_of_ble_eq_true rfl⟩) (dpS hE hP hS) rfl rfl hl.1 rfl (lv_room (Nat.le_of_ble_eq_true rfl)) dX12_isOnField_5 ⟨Nat.le_of_ble_eq_true rfl, Nat.le_of_ble_eq_true rfl⟩) hS (fun H locs hP hS => ?_)
  refine lv_if_eq (tgt := 26) S.1 S.2.1 dX12_isOnField_8 (by decide) (fun cq => ?_) (fun cq => ?_)
  · have h := d_t cq h
    refine lv_iconst (v := 0) S.1 S.2.1 dX12_isOnField_26 (by decide) ?_
    obtain rfl := Option.some.inj h
    exact dti S hr hlk hE hP hS rfl dX12_isOnField_27
  · have h := d_f cq h
    refine lv_iload_n S.1 S.2.1 dX12_isOnField_11 rfl (lv_at hl 1 rfl) ?_
    refine lv_iconst (v := 0) S.1 S.2.1 dX12_isOnField_12 (by decide) ?_
    refine lv_sipush (v := 840) S.1 S.2.1 dX12_isOnField_13 (by decide) ?_
    obtain ⟨v4, hc3, h⟩ := d_b h
    refine dri (va_runS (As := [.int p1, .int 0, .int 840]) (rest := []) S (kX12_isIn l g hc3) (va_cwS 3 S.2.2.2.2 gX12_isOnField_X12_isIn rfl rfl rfl ynX12_isIn ⟨Nat.le_of_ble_eq_true rfl, Nat.le_of_ble_eq_true rfl⟩) (dpS hE hP hS) rfl rfl hl.1 rfl (lv_room (Nat.le_of_ble_eq_true rfl)) dX12_isOnField_16 ⟨Nat.le_of_ble_eq_true rfl, Nat.le_of_ble_eq_true rfl⟩) hS (fun H locs hP hS => ?_)
    refine lv_if_eq (tgt := 26) S.1 S.2.1 dX12_isOnField_19 (by decide) (fun cq => ?_) (fun cq => ?_)
    · have h := d_t cq h
      refine lv_iconst (v := 0) S.1 S.2.1 dX12_isOnField_26 (by decide) ?_
      obtain rfl := Option.some.inj h
      exact dti S hr hlk hE hP hS rfl dX12_isOnField_27
    · have h := d_f cq h
      refine lv_iconst (v := 1) S.1 S.2.1 dX12_isOnField_22 (by decide) ?_
      refine lv_goto (tgt := 27) S.1 S.2.1 dX12_isOnField_23 (by decide) ?_
      obtain rfl := Option.some.inj h
      exact dti S hr hlk hE hP hS rfl dX12_isOnField_27
set_option maxRecDepth 20000 in
theorem ggX12_tried_X12_down : GoodIn wsX12_tried wsX12_down := goodIn_r _ [10] (by decide +kernel) (by decide +kernel)
set_option maxRecDepth 20000 in
theorem gX12_tried_X12_down : GoodIn wsX12_tried (va_wsS RX12 96 yX12_down wsX12_down) := goodIn_app (goodIn_of _ (by decide +kernel)) ggX12_tried_X12_down
set_option maxRecDepth 20000 in
theorem ggX12_tried_X12_isOnField : GoodIn wsX12_tried wsX12_isOnField := goodIn_r _ [13, 14, 15, 9, 16] (by decide +kernel) (by decide +kernel)
set_option maxRecDepth 20000 in
theorem gX12_tried_X12_isOnField : GoodIn wsX12_tried (va_wsS RX12 100 yX12_isOnField wsX12_isOnField) := goodIn_app (goodIn_of _ (by decide +kernel)) ggX12_tried_X12_isOnField
set_option maxRecDepth 20000 in
theorem ggX12_tried_X12_adds : GoodIn wsX12_tried wsX12_adds := goodIn_r _ [20, 21, 4, 22, 23, 24, 25, 26, 27, 28, 29, 30, 31, 32, 33, 34, 35, 36, 37, 38, 39, 40, 41, 42, 43, 44, 45, 46, 47, 48, 49] (by decide +kernel) (by decide +kernel)
set_option maxRecDepth 20000 in
theorem gX12_tried_X12_adds : GoodIn wsX12_tried (wsV RX12 104 RX12 yX12_adds wsX12_adds) := goodIn_app (goodIn_of _ (by decide +kernel)) ggX12_tried_X12_adds
theorem dX12_tried_0 : decode cX12_tried 0 = .ok (.iconst 1, 1) := by decide +kernel
theorem dX12_tried_1 : decode cX12_tried 1 = .ok (.istore 6, 2) := by decide +kernel
theorem dX12_tried_3 : decode cX12_tried 3 = .ok (.iconst 0, 1) := by decide +kernel
theorem dX12_tried_4 : decode cX12_tried 4 = .ok (.istore 7, 2) := by decide +kernel
theorem dX12_tried_6 : decode cX12_tried 6 = .ok (.iload 7, 2) := by decide +kernel
theorem dX12_tried_8 : decode cX12_tried 8 = .ok (.aload_n 0, 1) := by decide +kernel
theorem dX12_tried_9 : decode cX12_tried 9 = .ok (.getfield 7, 3) := by decide +kernel
theorem dX12_tried_12 : decode cX12_tried 12 = .ok (.if_icmp .ge 171, 3) := by decide +kernel
theorem dX12_tried_15 : decode cX12_tried 15 = .ok (.iload 7, 2) := by decide +kernel
theorem dX12_tried_17 : decode cX12_tried 17 = .ok (.iconst 1, 1) := by decide +kernel
theorem dX12_tried_18 : decode cX12_tried 18 = .ok (.iadd, 1) := by decide +kernel
theorem dX12_tried_19 : decode cX12_tried 19 = .ok (.iconst 2, 1) := by decide +kernel
theorem dX12_tried_20 : decode cX12_tried 20 = .ok (.idiv, 1) := by decide +kernel
theorem dX12_tried_21 : decode cX12_tried 21 = .ok (.istore 8, 2) := by decide +kernel
theorem dX12_tried_23 : decode cX12_tried 23 = .ok (.aload_n 0, 1) := by decide +kernel
theorem dX12_tried_24 : decode cX12_tried 24 = .ok (.getfield 67, 3) := by decide +kernel
theorem dX12_tried_27 : decode cX12_tried 27 = .ok (.iload 7, 2) := by decide +kernel
theorem dX12_tried_29 : decode cX12_tried 29 = .ok (.iload_n 1, 1) := by decide +kernel
theorem dX12_tried_30 : decode cX12_tried 30 = .ok (.ifCond .ne 24, 3) := by decide +kernel
theorem dX12_tried_33 : decode cX12_tried 33 = .ok (.iload_n 2, 1) := by decide +kernel
theorem dX12_tried_34 : decode cX12_tried 34 = .ok (.iload 7, 2) := by decide +kernel
theorem dX12_tried_36 : decode cX12_tried 36 = .ok (.iload 4, 2) := by decide +kernel
theorem dX12_tried_38 : decode cX12_tried 38 = .ok (.iload_n 2, 1) := by decide +kernel
theorem dX12_tried_39 : decode cX12_tried 39 = .ok (.isub, 1) := by decide +kernel
theorem dX12_tried_40 : decode cX12_tried 40 = .ok (.imul, 1) := by decide +kernel
theorem dX12_tried_41 : decode cX12_tried 41 = .ok (.aload_n 0, 1) := by decide +kernel
theorem dX12_tried_42 : decode cX12_tried 42 = .ok (.getfield 7, 3) := by decide +kernel
theorem dX12_tried_45 : decode cX12_tried 45 = .ok (.iconst 1, 1) := by decide +kernel
theorem dX12_tried_46 : decode cX12_tried 46 = .ok (.isub, 1) := by decide +kernel
theorem dX12_tried_47 : decode cX12_tried 47 = .ok (.invokestatic 96, 3) := by decide +kernel
theorem dX12_tried_50 : decode cX12_tried 50 = .ok (.iadd, 1) := by decide +kernel
theorem dX12_tried_51 : decode cX12_tried 51 = .ok (.goto 46, 3) := by decide +kernel
theorem dX12_tried_54 : decode cX12_tried 54 = .ok (.iload_n 1, 1) := by decide +kernel
theorem dX12_tried_55 : decode cX12_tried 55 = .ok (.iconst 1, 1) := by decide +kernel
theorem dX12_tried_56 : decode cX12_tried 56 = .ok (.if_icmp .ne 16, 3) := by decide +kernel
theorem dX12_tried_59 : decode cX12_tried 59 = .ok (.iload_n 2, 1) := by decide +kernel
theorem dX12_tried_60 : decode cX12_tried 60 = .ok (.iload 5, 2) := by decide +kernel
theorem dX12_tried_62 : decode cX12_tried 62 = .ok (.iload 7, 2) := by decide +kernel
theorem dX12_tried_64 : decode cX12_tried 64 = .ok (.iload 4, 2) := by decide +kernel
theorem dX12_tried_66 : decode cX12_tried 66 = .ok (.irem, 1) := by decide +kernel
theorem dX12_tried_67 : decode cX12_tried 67 = .ok (.imul, 1) := by decide +kernel
theorem dX12_tried_68 : decode cX12_tried 68 = .ok (.iadd, 1) := by decide +kernel
theorem dX12_tried_69 : decode cX12_tried 69 = .ok (.goto 28, 3) := by decide +kernel
theorem dX12_tried_72 : decode cX12_tried 72 = .ok (.iload 7, 2) := by decide +kernel
theorem dX12_tried_74 : decode cX12_tried 74 = .ok (.iconst 2, 1) := by decide +kernel
theorem dX12_tried_75 : decode cX12_tried 75 = .ok (.irem, 1) := by decide +kernel
theorem dX12_tried_76 : decode cX12_tried 76 = .ok (.iconst 1, 1) := by decide +kernel
theorem dX12_tried_77 : decode cX12_tried 77 = .ok (.if_icmp .ne 13, 3) := by decide +kernel
theorem dX12_tried_80 : decode cX12_tried 80 = .ok (.iload_n 2, 1) := by decide +kernel
theorem dX12_tried_81 : decode cX12_tried 81 = .ok (.iload 4, 2) := by decide +kernel
theorem dX12_tried_83 : decode cX12_tried 83 = .ok (.iload 8, 2) := by decide +kernel
theorem dX12_tried_85 : decode cX12_tried 85 = .ok (.imul, 1) := by decide +kernel
theorem dX12_tried_86 : decode cX12_tried 86 = .ok (.isub, 1) := by decide +kernel
theorem dX12_tried_87 : decode cX12_tried 87 = .ok (.goto 10, 3) := by decide +kernel
theorem dX12_tried_90 : decode cX12_tried 90 = .ok (.iload_n 2, 1) := by decide +kernel
theorem dX12_tried_91 : decode cX12_tried 91 = .ok (.iload 4, 2) := by decide +kernel
theorem dX12_tried_93 : decode cX12_tried 93 = .ok (.iload 8, 2) := by decide +kernel
theorem dX12_tried_95 : decode cX12_tried 95 = .ok (.imul, 1) := by decide +kernel
theorem dX12_tried_96 : decode cX12_tried 96 = .ok (.iadd, 1) := by decide +kernel
theorem dX12_tried_97 : decode cX12_tried 97 = .ok (.iastore, 1) := by decide +kernel
theorem dX12_tried_98 : decode cX12_tried 98 = .ok (.aload_n 0, 1) := by decide +kernel
theorem dX12_tried_99 : decode cX12_tried 99 = .ok (.getfield 70, 3) := by decide +kernel
theorem dX12_tried_102 : decode cX12_tried 102 = .ok (.iload 7, 2) := by decide +kernel
theorem dX12_tried_104 : decode cX12_tried 104 = .ok (.iload_n 1, 1) := by decide +kernel
theorem dX12_tried_105 : decode cX12_tried 105 = .ok (.ifCond .ne 24, 3) := by decide +kernel
theorem dX12_tried_108 : decode cX12_tried 108 = .ok (.iload_n 3, 1) := by decide +kernel
theorem dX12_tried_109 : decode cX12_tried 109 = .ok (.iload 7, 2) := by decide +kernel
theorem dX12_tried_111 : decode cX12_tried 111 = .ok (.iload 5, 2) := by decide +kernel
theorem dX12_tried_113 : decode cX12_tried 113 = .ok (.iload_n 3, 1) := by decide +kernel
theorem dX12_tried_114 : decode cX12_tried 114 = .ok (.isub, 1) := by decide +kernel
theorem dX12_tried_115 : decode cX12_tried 115 = .ok (.imul, 1) := by decide +kernel
theorem dX12_tried_116 : decode cX12_tried 116 = .ok (.aload_n 0, 1) := by decide +kernel
theorem dX12_tried_117 : decode cX12_tried 117 = .ok (.getfield 7, 3) := by decide +kernel
theorem dX12_tried_120 : decode cX12_tried 120 = .ok (.iconst 1, 1) := by decide +kernel
theorem dX12_tried_121 : decode cX12_tried 121 = .ok (.isub, 1) := by decide +kernel
theorem dX12_tried_122 : decode cX12_tried 122 = .ok (.invokestatic 96, 3) := by decide +kernel
theorem dX12_tried_125 : decode cX12_tried 125 = .ok (.iadd, 1) := by decide +kernel
theorem dX12_tried_126 : decode cX12_tried 126 = .ok (.goto 28, 3) := by decide +kernel
theorem dX12_tried_129 : decode cX12_tried 129 = .ok (.iload_n 1, 1) := by decide +kernel
theorem dX12_tried_130 : decode cX12_tried 130 = .ok (.iconst 1, 1) := by decide +kernel
theorem dX12_tried_131 : decode cX12_tried 131 = .ok (.if_icmp .ne 16, 3) := by decide +kernel
theorem dX12_tried_134 : decode cX12_tried 134 = .ok (.iload_n 3, 1) := by decide +kernel
theorem dX12_tried_135 : decode cX12_tried 135 = .ok (.iload 5, 2) := by decide +kernel
theorem dX12_tried_137 : decode cX12_tried 137 = .ok (.iload 7, 2) := by decide +kernel
theorem dX12_tried_139 : decode cX12_tried 139 = .ok (.iload 4, 2) := by decide +kernel
theorem dX12_tried_141 : decode cX12_tried 141 = .ok (.idiv, 1) := by decide +kernel
theorem dX12_tried_142 : decode cX12_tried 142 = .ok (.imul, 1) := by decide +kernel
theorem dX12_tried_143 : decode cX12_tried 143 = .ok (.iadd, 1) := by decide +kernel
theorem dX12_tried_144 : decode cX12_tried 144 = .ok (.goto 10, 3) := by decide +kernel
theorem dX12_tried_147 : decode cX12_tried 147 = .ok (.iload_n 3, 1) := by decide +kernel
theorem dX12_tried_148 : decode cX12_tried 148 = .ok (.iload 4, 2) := by decide +kernel
theorem dX12_tried_150 : decode cX12_tried 150 = .ok (.iload 8, 2) := by decide +kernel
theorem dX12_tried_152 : decode cX12_tried 152 = .ok (.imul, 1) := by decide +kernel
theorem dX12_tried_153 : decode cX12_tried 153 = .ok (.iadd, 1) := by decide +kernel
theorem dX12_tried_154 : decode cX12_tried 154 = .ok (.iastore, 1) := by decide +kernel
theorem dX12_tried_155 : decode cX12_tried 155 = .ok (.iload 6, 2) := by decide +kernel
theorem dX12_tried_157 : decode cX12_tried 157 = .ok (.aload_n 0, 1) := by decide +kernel
theorem dX12_tried_158 : decode cX12_tried 158 = .ok (.getfield 67, 3) := by decide +kernel
theorem dX12_tried_161 : decode cX12_tried 161 = .ok (.iload 7, 2) := by decide +kernel
theorem dX12_tried_163 : decode cX12_tried 163 = .ok (.iaload, 1) := by decide +kernel
theorem dX12_tried_164 : decode cX12_tried 164 = .ok (.aload_n 0, 1) := by decide +kernel
theorem dX12_tried_165 : decode cX12_tried 165 = .ok (.getfield 70, 3) := by decide +kernel
theorem dX12_tried_168 : decode cX12_tried 168 = .ok (.iload 7, 2) := by decide +kernel
theorem dX12_tried_170 : decode cX12_tried 170 = .ok (.iaload, 1) := by decide +kernel
theorem dX12_tried_171 : decode cX12_tried 171 = .ok (.invokestatic 100, 3) := by decide +kernel
theorem dX12_tried_174 : decode cX12_tried 174 = .ok (.iand, 1) := by decide +kernel
theorem dX12_tried_175 : decode cX12_tried 175 = .ok (.istore 6, 2) := by decide +kernel
theorem dX12_tried_177 : decode cX12_tried 177 = .ok (.iinc 7 1, 3) := by decide +kernel
theorem dX12_tried_180 : decode cX12_tried 180 = .ok (.goto (-174), 3) := by decide +kernel
theorem dX12_tried_183 : decode cX12_tried 183 = .ok (.aload_n 0, 1) := by decide +kernel
theorem dX12_tried_184 : decode cX12_tried 184 = .ok (.iconst 1, 1) := by decide +kernel
theorem dX12_tried_185 : decode cX12_tried 185 = .ok (.iload 6, 2) := by decide +kernel
theorem dX12_tried_187 : decode cX12_tried 187 = .ok (.invokevirtual 104, 3) := by decide +kernel
theorem dX12_tried_190 : decode cX12_tried 190 = .ok (.istore 7, 2) := by decide +kernel
theorem dX12_tried_192 : decode cX12_tried 192 = .ok (.iconst 0, 1) := by decide +kernel
theorem dX12_tried_193 : decode cX12_tried 193 = .ok (.istore 8, 2) := by decide +kernel
theorem dX12_tried_195 : decode cX12_tried 195 = .ok (.iload 8, 2) := by decide +kernel
theorem dX12_tried_197 : decode cX12_tried 197 = .ok (.aload_n 0, 1) := by decide +kernel
theorem dX12_tried_198 : decode cX12_tried 198 = .ok (.getfield 7, 3) := by decide +kernel
theorem dX12_tried_201 : decode cX12_tried 201 = .ok (.if_icmp .ge 56, 3) := by decide +kernel
theorem dX12_tried_204 : decode cX12_tried 204 = .ok (.aload_n 0, 1) := by decide +kernel
theorem dX12_tried_205 : decode cX12_tried 205 = .ok (.getfield 76, 3) := by decide +kernel
theorem dX12_tried_208 : decode cX12_tried 208 = .ok (.ifCond .ne 49, 3) := by decide +kernel
theorem dX12_tried_211 : decode cX12_tried 211 = .ok (.aload_n 0, 1) := by decide +kernel
theorem dX12_tried_212 : decode cX12_tried 212 = .ok (.getfield 27, 3) := by decide +kernel
theorem dX12_tried_215 : decode cX12_tried 215 = .ok (.bipush 10, 2) := by decide +kernel
theorem dX12_tried_217 : decode cX12_tried 217 = .ok (.iload 7, 2) := by decide +kernel
theorem dX12_tried_219 : decode cX12_tried 219 = .ok (.imul, 1) := by decide +kernel
theorem dX12_tried_220 : decode cX12_tried 220 = .ok (.iload 8, 2) := by decide +kernel
theorem dX12_tried_222 : decode cX12_tried 222 = .ok (.iadd, 1) := by decide +kernel
theorem dX12_tried_223 : decode cX12_tried 223 = .ok (.aload_n 0, 1) := by decide +kernel
theorem dX12_tried_224 : decode cX12_tried 224 = .ok (.getfield 67, 3) := by decide +kernel
theorem dX12_tried_227 : decode cX12_tried 227 = .ok (.iload 8, 2) := by decide +kernel
theorem dX12_tried_229 : decode cX12_tried 229 = .ok (.iaload, 1) := by decide +kernel
theorem dX12_tried_230 : decode cX12_tried 230 = .ok (.iastore, 1) := by decide +kernel
theorem dX12_tried_231 : decode cX12_tried 231 = .ok (.aload_n 0, 1) := by decide +kernel
theorem dX12_tried_232 : decode cX12_tried 232 = .ok (.getfield 30, 3) := by decide +kernel
theorem dX12_tried_235 : decode cX12_tried 235 = .ok (.bipush 10, 2) := by decide +kernel
theorem dX12_tried_237 : decode cX12_tried 237 = .ok (.iload 7, 2) := by decide +kernel
theorem dX12_tried_239 : decode cX12_tried 239 = .ok (.imul, 1) := by decide +kernel
theorem dX12_tried_240 : decode cX12_tried 240 = .ok (.iload 8, 2) := by decide +kernel
theorem dX12_tried_242 : decode cX12_tried 242 = .ok (.iadd, 1) := by decide +kernel
theorem dX12_tried_243 : decode cX12_tried 243 = .ok (.aload_n 0, 1) := by decide +kernel
theorem dX12_tried_244 : decode cX12_tried 244 = .ok (.getfield 70, 3) := by decide +kernel
theorem dX12_tried_247 : decode cX12_tried 247 = .ok (.iload 8, 2) := by decide +kernel
theorem dX12_tried_249 : decode cX12_tried 249 = .ok (.iaload, 1) := by decide +kernel
theorem dX12_tried_250 : decode cX12_tried 250 = .ok (.iastore, 1) := by decide +kernel
theorem dX12_tried_251 : decode cX12_tried 251 = .ok (.iinc 8 1, 3) := by decide +kernel
theorem dX12_tried_254 : decode cX12_tried 254 = .ok (.goto (-59), 3) := by decide +kernel
theorem dX12_tried_257 : decode cX12_tried 257 = .ok (.iload 7, 2) := by decide +kernel
theorem dX12_tried_259 : decode cX12_tried 259 = .ok (.ireturn, 1) := by decide +kernel
def fX12_tried_l6 (p0 : Nat) (p1 : Int32) (p2 : Int32) (p3 : Int32) (p4 : Int32) (p5 : Int32) (v2 : Int32) (v3 : Int32) (m4 : dM) : Option ((Int32 × Int32 × dM) ⊕ (Int32 × dM)) := if (m4.1 p0 0) ≤ v2 then some (.inr (v3, m4)) else dlet ((v2 + 1) / 2 : Int32) (fun v80 => if p1 = 0 then (fX12_down m4 (v2 * (p4 - p2)) ((m4.1 p0 0) - 1)).bind (fun v136 => dg (dIx v2 (dL 461)) (dlet (d1 m4 461 (Int32.toNatClampNeg (v2)) (p2 + v136)) (fun m137 => if p1 = 0 then (fX12_down m137 (v2 * (p5 - p3)) ((m137.1 p0 0) - 1)).bind (fun v149 => dg (dIx v2 (dL 462)) (dlet (d1 m137 462 (Int32.toNatClampNeg (v2)) (p3 + v149)) (fun m150 => dg (dIx v2 (dL 461)) (dg (dIx v2 (dL 462)) ((fX12_isOnField m150 (m150.1 461 (Int32.toNatClampNeg (v2))) (m150.1 462 (Int32.toNatClampNeg (v2)))).bind (fun v152 => dlet (v3 &&& v152 : Int32) (fun v153 => dlet (v2 + 1 : Int32) (fun v154 => some (.inl (v154, v153, m150)))))))))) else if p1 = 1 then dg (decide (¬ p4 = 0)) (dg (dIx v2 (dL 462)) (dlet (d1 m137 462 (Int32.toNatClampNeg (v2)) (p3 + (p5 * (v2 / p4)))) (fun m143 => dg (dIx v2 (dL 461)) (dg (dIx v2 (dL 462)) ((fX12_isOnField m143 (m143.1 461 (Int32.toNatClampNeg (v2))) (m143.1 462 (Int32.toNatClampNeg (v2)))).bind (fun v145 => dlet (v3 &&& v145 : Int32) (fun v146 => dlet (v2 + 1 : Int32) (fun v147 => some (.inl (v147, v146, m143)))))))))) else dg (dIx v2 (dL 462)) (dlet (d1 m137 462 (Int32.toNatClampNeg (v2)) (p3 + (p4 * v80))) (fun m138 => dg (dIx v2 (dL 461)) (dg (dIx v2 (dL 462)) ((fX12_isOnField m138 (m138.1 461 (Int32.toNatClampNeg (v2))) (m138.1 462 (Int32.toNatClampNeg (v2)))).bind (fun v140 => dlet (v3 &&& v140 : Int32) (fun v141 => dlet (v2 + 1 : Int32) (fun v142 => some (.inl (v142, v141, m138)))))))))))) else if p1 = 1 then dg (decide (¬ p4 = 0)) (dg (dIx v2 (dL 461)) (dlet (d1 m4 461 (Int32.toNatClampNeg (v2)) (p2 + (p5 * (v2 - v2 / p4 * p4)))) (fun m117 => if p1 = 0 then (fX12_down m117 (v2 * (p5 - p3)) ((m117.1 p0 0) - 1)).bind (fun v129 => dg (dIx v2 (dL 462)) (dlet (d1 m117 462 (Int32.toNatClampNeg (v2)) (p3 + v129)) (fun m130 => dg (dIx v2 (dL 461)) (dg (dIx v2 (dL 462)) ((fX12_isOnField m130 (m130.1 461 (Int32.toNatClampNeg (v2))) (m130.1 462 (Int32.toNatClampNeg (v2)))).bind (fun v132 => dlet (v3 &&& v132 : Int32) (fun v133 => dlet (v2 + 1 : Int32) (fun v134 => some (.inl (v134, v133, m130)))))))))) else if p1 = 1 then dg (decide (¬ p4 = 0)) (dg (dIx v2 (dL 462)) (dlet (d1 m117 462 (Int32.toNatClampNeg (v2)) (p3 + (p5 * (v2 / p4)))) (fun m123 => dg (dIx v2 (dL 461)) (dg (dIx v2 (dL 462)) ((fX12_isOnField m123 (m123.1 461 (Int32.toNatClampNeg (v2))) (m123.1 462 (Int32.toNatClampNeg (v2)))).bind (fun v125 => dlet (v3 &&& v125 : Int32) (fun v126 => dlet (v2 + 1 : Int32) (fun v127 => some (.inl (v127, v126, m123)))))))))) else dg (dIx v2 (dL 462)) (dlet (d1 m117 462 (Int32.toNatClampNeg (v2)) (p3 + (p4 * v80))) (fun m118 => dg (dIx v2 (dL 461)) (dg (dIx v2 (dL 462)) ((fX12_isOnField m118 (m118.1 461 (Int32.toNatClampNeg (v2))) (m118.1 462 (Int32.toNatClampNeg (v2)))).bind (fun v120 => dlet (v3 &&& v120 : Int32) (fun v121 => dlet (v2 + 1 : Int32) (fun v122 => some (.inl (v122, v121, m118)))))))))))) else if (v2 - v2 / 2 * 2) = 1 then dg (dIx v2 (dL 461)) (dlet (d1 m4 461 (Int32.toNatClampNeg (v2)) (p2 - (p4 * v80))) (fun m99 => if p1 = 0 then (fX12_down m99 (v2 * (p5 - p3)) ((m99.1 p0 0) - 1)).bind (fun v111 => dg (dIx v2 (dL 462)) (dlet (d1 m99 462 (Int32.toNatClampNeg (v2)) (p3 + v111)) (fun m112 => dg (dIx v2 (dL 461)) (dg (dIx v2 (dL 462)) ((fX12_isOnField m112 (m112.1 461 (Int32.toNatClampNeg (v2))) (m112.1 462 (Int32.toNatClampNeg (v2)))).bind (fun v114 => dlet (v3 &&& v114 : Int32) (fun v115 => dlet (v2 + 1 : Int32) (fun v116 => some (.inl (v116, v115, m112)))))))))) else if p1 = 1 then dg (decide (¬ p4 = 0)) (dg (dIx v2 (dL 462)) (dlet (d1 m99 462 (Int32.toNatClampNeg (v2)) (p3 + (p5 * (v2 / p4)))) (fun m105 => dg (dIx v2 (dL 461)) (dg (dIx v2 (dL 462)) ((fX12_isOnField m105 (m105.1 461 (Int32.toNatClampNeg (v2))) (m105.1 462 (Int32.toNatClampNeg (v2)))).bind (fun v107 => dlet (v3 &&& v107 : Int32) (fun v108 => dlet (v2 + 1 : Int32) (fun v109 => some (.inl (v109, v108, m105)))))))))) else dg (dIx v2 (dL 462)) (dlet (d1 m99 462 (Int32.toNatClampNeg (v2)) (p3 + (p4 * v80))) (fun m100 => dg (dIx v2 (dL 461)) (dg (dIx v2 (dL 462)) ((fX12_isOnField m100 (m100.1 461 (Int32.toNatClampNeg (v2))) (m100.1 462 (Int32.toNatClampNeg (v2)))).bind (fun v102 => dlet (v3 &&& v102 : Int32) (fun v103 => dlet (v2 + 1 : Int32) (fun v104 => some (.inl (v104, v103, m100))))))))))) else dg (dIx v2 (dL 461)) (dlet (d1 m4 461 (Int32.toNatClampNeg (v2)) (p2 + (p4 * v80))) (fun m81 => if p1 = 0 then (fX12_down m81 (v2 * (p5 - p3)) ((m81.1 p0 0) - 1)).bind (fun v93 => dg (dIx v2 (dL 462)) (dlet (d1 m81 462 (Int32.toNatClampNeg (v2)) (p3 + v93)) (fun m94 => dg (dIx v2 (dL 461)) (dg (dIx v2 (dL 462)) ((fX12_isOnField m94 (m94.1 461 (Int32.toNatClampNeg (v2))) (m94.1 462 (Int32.toNatClampNeg (v2)))).bind (fun v96 => dlet (v3 &&& v96 : Int32) (fun v97 => dlet (v2 + 1 : Int32) (fun v98 => some (.inl (v98, v97, m94)))))))))) else if p1 = 1 then dg (decide (¬ p4 = 0)) (dg (dIx v2 (dL 462)) (dlet (d1 m81 462 (Int32.toNatClampNeg (v2)) (p3 + (p5 * (v2 / p4)))) (fun m87 => dg (dIx v2 (dL 461)) (dg (dIx v2 (dL 462)) ((fX12_isOnField m87 (m87.1 461 (Int32.toNatClampNeg (v2))) (m87.1 462 (Int32.toNatClampNeg (v2)))).bind (fun v89 => dlet (v3 &&& v89 : Int32) (fun v90 => dlet (v2 + 1 : Int32) (fun v91 => some (.inl (v91, v90, m87)))))))))) else dg (dIx v2 (dL 462)) (dlet (d1 m81 462 (Int32.toNatClampNeg (v2)) (p3 + (p4 * v80))) (fun m82 => dg (dIx v2 (dL 461)) (dg (dIx v2 (dL 462)) ((fX12_isOnField m82 (m82.1 461 (Int32.toNatClampNeg (v2))) (m82.1 462 (Int32.toNatClampNeg (v2)))).bind (fun v84 => dlet (v3 &&& v84 : Int32) (fun v85 => dlet (v2 + 1 : Int32) (fun v86 => some (.inl (v86, v85, m82))))))))))))
def fX12_tried_l195 (p0 : Nat) (v159 : Int32) (v161 : Int32) (m162 : dM) : Option ((Int32 × dM) ⊕ dM) := if (m162.1 p0 0) ≤ v161 then some (.inr m162) else if (m162.1 p0 25) = 0 then dg (dIx v161 (dL 461)) (dg (dIx ((10 * v159) + v161) (dL 449)) (dlet (d1 m162 449 (Int32.toNatClampNeg ((10 * v159) + v161)) (m162.1 461 (Int32.toNatClampNeg (v161)))) (fun m166 => dg (dIx v161 (dL 462)) (dg (dIx ((10 * v159) + v161) (dL 450)) (dlet (d1 m166 450 (Int32.toNatClampNeg ((10 * v159) + v161)) (m166.1 462 (Int32.toNatClampNeg (v161)))) (fun m167 => dlet (v161 + 1 : Int32) (fun v168 => some (.inl (v168, m167))))))))) else some (.inr m162)
def fX12_tried (m : dM) (p0 : Nat) (p1 : Int32) (p2 : Int32) (p3 : Int32) (p4 : Int32) (p5 : Int32) : Option (Int32 × dM) := dg (dkg p0 13) ((dlp (fun q => dP3 q (fun v2 v3 m4 => fX12_tried_l6 p0 p1 p2 p3 p4 p5 v2 v3 m4)) dFl (0, 1, m)).bind (fun q => dP2 q (fun v155 m156 => (fX12_adds m156 p0 1 v155).bind (fun q => dP2 q (fun v159 m158 => (dlp (fun q => dP2 q (fun v161 m162 => fX12_tried_l195 p0 v159 v161 m162)) dFl (0, m158)).bind (fun q => dP1 q (fun m169 => some (v159, m169))))))))
set_option maxHeartbeats 4000000 in
set_option maxRecDepth 100000 in
theorem kX12_tried (l : Launch) (g : dG) {m : dM} {p0 : Nat} {p1 : Int32} {p2 : Int32} {p3 : Int32} {p4 : Int32} {p5 : Int32} {r0 : Int32} {m0 : dM} (h : fX12_tried m p0 p1 p2 p3 p4 p5 = some (r0, m0)) : dMet l g yX12_tried wsX12_tried (dRm 2 43) [.ref (dad g p0), .int p1, .int p2, .int p3, .int p4, .int p5] m (dQI g r0 m0) := by
  refine dof (cc := cX12_tried) (maxL := 9) (ret := (some .int)) _ (plainFor_of_name (by decide)) rfl (Nat.le_of_ble_eq_true rfl) ?_
  intro p e s mth below meth c S hr hlk hE H ls hP hS hl
  have S : CallFix p mth c cX12_tried 9 s _ wsX12_tried RX12 := S
  have hl : lv_has ls 9 [(0, .ref (dad g p0)), (1, .int p1), (2, .int p2), (3, .int p3), (4, .int p4), (5, .int p5)] := hl
  obtain ⟨locs, hlocs⟩ : ∃ z : List Loc, z = [] := ⟨_, rfl⟩
  rw [← hlocs] at hS ⊢
  have in12 : ∀ w ∈ wsX120, w ∈ wsX12_tried := by decide +kernel
  unfold fX12_tried at h
  obtain ⟨k0, h⟩ := d_g h
  have k0 := d_k k0
  refine lv_iconst (v := 1) S.1 S.2.1 dX12_tried_0 (by decide) ?_
  refine lv_istore (lv' := [(6, .int 1), (0, .ref (dad g p0)), (1, .int p1), (2, .int p2), (3, .int p3), (4, .int p4), (5, .int p5)]) S.1 S.2.1 dX12_tried_1 hl (by decide) rfl (fun ls hl => ?_)
  refine lv_iconst (v := 0) S.1 S.2.1 dX12_tried_3 (by decide) ?_
  refine lv_istore (lv' := [(7, .int 0), (6, .int 1), (0, .ref (dad g p0)), (1, .int p1), (2, .int p2), (3, .int p3), (4, .int p4), (5, .int p5)]) S.1 S.2.1 dX12_tried_4 hl (by decide) rfl (fun ls hl => ?_)
  obtain ⟨qL1, hqL1, h⟩ := d_b h
  refine d_lp (Hd := fun q => match q with | (v2, v3, m4) => ∀ (H : Heap) (locs : List Loc) (ls : Array Slot), va_P g.1 vwCl (dws g m4) H → va_S (dA g) s.heap H locs → lv_has ls 9 [(7, .int v2), (6, .int v3), (0, .ref (dad g p0)), (1, .int p1), (2, .int p2), (3, .int p3), (4, .int p4), (5, .int p5)] → W p l e (headSpec wsX12_tried (dRm 2 43)).room s mth (([.ref (dad g p0), .int p1, .int p2, .int p3, .int p4, .int p5] : List Value).toArray) below meth c H locs 0 0 (MQ below (dQI g r0 m0) (([.ref (dad g p0), .int p1, .int p2, .int p3, .int p4, .int p5] : List Value).toArray) s 0 0 (dA g)) (F0 mth 6 ls [])) (K := fun q => match q with | (v155, m156) => ∀ (H : Heap) (locs : List Loc) (ls : Array Slot), va_P g.1 vwCl (dws g m156) H → va_S (dA g) s.heap H locs → lv_has ls 9 [(0, .ref (dad g p0)), (6, .int v155)] → W p l e (headSpec wsX12_tried (dRm 2 43)).room s mth (([.ref (dad g p0), .int p1, .int p2, .int p3, .int p4, .int p5] : List Value).toArray) below meth c H locs 0 0 (MQ below (dQI g r0 m0) (([.ref (dad g p0), .int p1, .int p2, .int p3, .int p4, .int p5] : List Value).toArray) s 0 0 (dA g)) (F0 mth 183 ls [])) ?_ dFl _ qL1 hqL1 ?_ H locs ls hP hS (lv_sub hl [0, 1, 2, 3, 4, 5, 6, 7] rfl)
  · intro q o h hCL1 hEL1
    obtain ⟨v2, v3, m4⟩ := q
    have h : fX12_tried_l6 p0 p1 p2 p3 p4 p5 v2 v3 m4 = some o := h
    intro H locs ls hP hS hl
    have hP : va_P g.1 vwCl (dws g m4) H := hP
    have hl : lv_has ls 9 [(7, .int v2), (6, .int v3), (0, .ref (dad g p0)), (1, .int p1), (2, .int p2), (3, .int p3), (4, .int p4), (5, .int p5)] := hl
    unfold fX12_tried_l6 at h
    refine lv_iload S.1 S.2.1 dX12_tried_6 (lv_at hl 0 rfl) ?_
    refine lv_aload_n S.1 S.2.1 dX12_tried_8 rfl (lv_at hl 2 rfl) ?_
    refine dgf12_0 S in12 hE hP k0 (S.2.2.2.2 (.fieldLink RX12 7 "DrillFieldModel" "dots" "I") (List.mem_of_getElem? (i := 1) rfl)) dX12_tried_9 ?_
    refine lv_icmp_ge (tgt := 183) S.1 S.2.1 dX12_tried_12 (by decide) (fun cq => ?_) (fun cq => ?_)
    · have h := d_t cq h
      obtain rfl := Option.some.inj h
      exact hEL1 _ rfl H locs ls hP hS (lv_sub hl [2, 1] rfl)
    · have h := d_f cq h
      refine lv_iload S.1 S.2.1 dX12_tried_15 (lv_at hl 0 rfl) ?_
      refine lv_iconst (v := 1) S.1 S.2.1 dX12_tried_17 (by decide) ?_
      refine lv_iadd S.1 S.2.1 dX12_tried_18 ?_
      refine lv_iconst (v := 2) S.1 S.2.1 dX12_tried_19 (by decide) ?_
      refine lv_idiv S.1 S.2.1 dX12_tried_20 (by decide) ?_
      refine lv_topi (fun v80 ev80 => ?_)
      have h := d_let ev80 h
      refine lv_istore (lv' := [(8, .int v80), (7, .int v2), (6, .int v3), (0, .ref (dad g p0)), (1, .int p1), (2, .int p2), (3, .int p3), (4, .int p4), (5, .int p5)]) S.1 S.2.1 dX12_tried_21 hl (by decide) rfl (fun ls hl => ?_)
      refine lv_aload_n S.1 S.2.1 dX12_tried_23 rfl (lv_at hl 3 rfl) ?_
      refine dgf12_26 S in12 hE hP k0 (S.2.2.2.2 (.fieldLink RX12 67 "DrillFieldModel" "triedX" "[I") (List.mem_of_getElem? (i := 2) rfl)) dX12_tried_24 ?_
      refine lv_iload S.1 S.2.1 dX12_tried_27 (lv_at hl 1 rfl) ?_
      refine lv_iload_n S.1 S.2.1 dX12_tried_29 rfl (lv_at hl 4 rfl) ?_
      refine lv_if_ne (tgt := 54) S.1 S.2.1 dX12_tried_30 (by decide) (fun cq => ?_) (fun cq => ?_)
      · have h := d_f cq h
        refine lv_iload_n S.1 S.2.1 dX12_tried_54 rfl (lv_at hl 4 rfl) ?_
        refine lv_iconst (v := 1) S.1 S.2.1 dX12_tried_55 (by decide) ?_
        refine lv_icmp_ne (tgt := 72) S.1 S.2.1 dX12_tried_56 (by decide) (fun cq => ?_) (fun cq => ?_)
        · have h := d_f cq h
          refine lv_iload S.1 S.2.1 dX12_tried_72 (lv_at hl 1 rfl) ?_
          refine lv_iconst (v := 2) S.1 S.2.1 dX12_tried_74 (by decide) ?_
          refine lv_irem S.1 S.2.1 dX12_tried_75 (by decide) ?_
          refine lv_iconst (v := 1) S.1 S.2.1 dX12_tried_76 (by decide) ?_
          refine lv_icmp_ne (tgt := 90) S.1 S.2.1 dX12_tried_77 (by decide) (fun cq => ?_) (fun cq => ?_)
          · have h := d_f cq h
            refine lv_iload_n S.1 S.2.1 dX12_tried_90 rfl (lv_at hl 5 rfl) ?_
            refine lv_iload S.1 S.2.1 dX12_tried_91 (lv_at hl 7 rfl) ?_
            refine lv_iload S.1 S.2.1 dX12_tried_93 (lv_at hl 0 rfl) ?_
            refine lv_imul S.1 S.2.1 dX12_tried_95 ?_
            refine lv_iadd S.1 S.2.1 dX12_tried_96 ?_
            obtain ⟨hi, h⟩ := d_g h
            refine d_iast S hE hP hS dk_461 hi dX12_tried_97 (fun H locs hP hS => ?_)
            obtain ⟨m81, em81⟩ : ∃ z : dM, z = d1 m4 461 (Int32.toNatClampNeg (v2)) (p2 + (p4 * v80)) := ⟨_, rfl⟩
            have h := d_let em81 h
            rw [← em81] at hP
            refine lv_aload_n S.1 S.2.1 dX12_tried_98 rfl (lv_at hl 3 rfl) ?_
            refine dgf12_27 S in12 hE hP k0 (S.2.2.2.2 (.fieldLink RX12 70 "DrillFieldModel" "triedY" "[I") (List.mem_of_getElem? (i := 3) rfl)) dX12_tried_99 ?_
            refine lv_iload S.1 S.2.1 dX12_tried_102 (lv_at hl 1 rfl) ?_
            refine lv_iload_n S.1 S.2.1 dX12_tried_104 rfl (lv_at hl 4 rfl) ?_
            refine lv_if_ne (tgt := 129) S.1 S.2.1 dX12_tried_105 (by decide) (fun cq => ?_) (fun cq => ?_)
            · have h := d_f cq h
              refine lv_iload_n S.1 S.2.1 dX12_tried_129 rfl (lv_at hl 4 rfl) ?_
              refine lv_iconst (v := 1) S.1 S.2.1 dX12_tried_130 (by decide) ?_
              refine lv_icmp_ne (tgt := 147) S.1 S.2.1 dX12_tried_131 (by decide) (fun cq => ?_) (fun cq => ?_)
              · have h := d_f cq h
                refine lv_iload_n S.1 S.2.1 dX12_tried_147 rfl (lv_at hl 6 rfl) ?_
                refine lv_iload S.1 S.2.1 dX12_tried_148 (lv_at hl 7 rfl) ?_
                refine lv_iload S.1 S.2.1 dX12_tried_150 (lv_at hl 0 rfl) ?_
                refine lv_imul S.1 S.2.1 dX12_tried_152 ?_
                refine lv_iadd S.1 S.2.1 dX12_tried_153 ?_
                obtain ⟨hi, h⟩ := d_g h
                refine d_iast S hE hP hS dk_462 hi dX12_tried_154 (fun H locs hP hS => ?_)
                obtain ⟨m82, em82⟩ : ∃ z : dM, z = d1 m81 462 (Int32.toNatClampNeg (v2)) (p3 + (p4 * v80)) := ⟨_, rfl⟩
                have h := d_let em82 h
                rw [← em82] at hP
                refine lv_iload S.1 S.2.1 dX12_tried_155 (lv_at hl 2 rfl) ?_
                refine lv_aload_n S.1 S.2.1 dX12_tried_157 rfl (lv_at hl 3 rfl) ?_
                refine dgf12_26 S in12 hE hP k0 (S.2.2.2.2 (.fieldLink RX12 67 "DrillFieldModel" "triedX" "[I") (List.mem_of_getElem? (i := 2) rfl)) dX12_tried_158 ?_
                refine lv_iload S.1 S.2.1 dX12_tried_161 (lv_at hl 1 rfl) ?_
                obtain ⟨hi, h⟩ := d_g h
                refine d_iald S hE hP dk_461 hi dX12_tried_163 ?_
                refine lv_aload_n S.1 S.2.1 dX12_tried_164 rfl (lv_at hl 3 rfl) ?_
                refine dgf12_27 S in12 hE hP k0 (S.2.2.2.2 (.fieldLink RX12 70 "DrillFieldModel" "triedY" "[I") (List.mem_of_getElem? (i := 3) rfl)) dX12_tried_165 ?_
                refine lv_iload S.1 S.2.1 dX12_tried_168 (lv_at hl 1 rfl) ?_
                obtain ⟨hi, h⟩ := d_g h
                refine d_iald S hE hP dk_462 hi dX12_tried_170 ?_
                obtain ⟨v84, hc83, h⟩ := d_b h
                refine dri (va_runS (As := [.int (m82.1 461 (Int32.toNatClampNeg (v2))), .int (m82.1 462 (Int32.toNatClampNeg (v2)))]) (rest := [.int v3]) S (kX12_isOnField l g hc83) (va_cwS 2 S.2.2.2.2 gX12_tried_X12_isOnField rfl rfl rfl ynX12_isOnField ⟨Nat.le_of_ble_eq_true rfl, Nat.le_of_ble_eq_true rfl⟩) (dpS hE hP hS) rfl rfl hl.1 rfl (lv_room (Nat.le_of_ble_eq_true rfl)) dX12_tried_171 ⟨Nat.le_of_ble_eq_true rfl, Nat.le_of_ble_eq_true rfl⟩) hS (fun H locs hP hS => ?_)
                refine lv_iand S.1 S.2.1 dX12_tried_174 ?_
                refine lv_topi (fun v85 ev85 => ?_)
                have h := d_let ev85 h
                refine lv_istore (lv' := [(6, .int v85), (8, .int v80), (7, .int v2), (0, .ref (dad g p0)), (1, .int p1), (2, .int p2), (3, .int p3), (4, .int p4), (5, .int p5)]) S.1 S.2.1 dX12_tried_175 hl (by decide) rfl (fun ls hl => ?_)
                obtain ⟨v86, ev86⟩ : ∃ z : Int32, z = v2 + 1 := ⟨_, rfl⟩
                have h := d_let ev86 h
                refine lv_iinc (v := v86) (lv' := [(7, .int v86), (6, .int v85), (8, .int v80), (0, .ref (dad g p0)), (1, .int p1), (2, .int p2), (3, .int p3), (4, .int p4), (5, .int p5)]) S.1 S.2.1 dX12_tried_177 hl (k := 2) rfl (by rw [ev86]; rfl) (by decide) rfl (fun ls hl => ?_)
                refine lv_goto (tgt := 6) S.1 S.2.1 dX12_tried_180 (by decide) ?_
                obtain rfl := Option.some.inj h
                exact hCL1 _ rfl H locs ls hP hS (lv_sub hl [0, 1, 3, 4, 5, 6, 7, 8] rfl)
              · have h := d_t cq h
                refine lv_iload_n S.1 S.2.1 dX12_tried_134 rfl (lv_at hl 6 rfl) ?_
                refine lv_iload S.1 S.2.1 dX12_tried_135 (lv_at hl 8 rfl) ?_
                refine lv_iload S.1 S.2.1 dX12_tried_137 (lv_at hl 1 rfl) ?_
                refine lv_iload S.1 S.2.1 dX12_tried_139 (lv_at hl 7 rfl) ?_
                obtain ⟨hz, h⟩ := d_g h
                refine lv_idiv S.1 S.2.1 dX12_tried_141 (of_decide_eq_true hz) ?_
                refine lv_imul S.1 S.2.1 dX12_tried_142 ?_
                refine lv_iadd S.1 S.2.1 dX12_tried_143 ?_
                refine lv_goto (tgt := 154) S.1 S.2.1 dX12_tried_144 (by decide) ?_
                obtain ⟨hi, h⟩ := d_g h
                refine d_iast S hE hP hS dk_462 hi dX12_tried_154 (fun H locs hP hS => ?_)
                obtain ⟨m87, em87⟩ : ∃ z : dM, z = d1 m81 462 (Int32.toNatClampNeg (v2)) (p3 + (p5 * (v2 / p4))) := ⟨_, rfl⟩
                have h := d_let em87 h
                rw [← em87] at hP
                refine lv_iload S.1 S.2.1 dX12_tried_155 (lv_at hl 2 rfl) ?_
                refine lv_aload_n S.1 S.2.1 dX12_tried_157 rfl (lv_at hl 3 rfl) ?_
                refine dgf12_26 S in12 hE hP k0 (S.2.2.2.2 (.fieldLink RX12 67 "DrillFieldModel" "triedX" "[I") (List.mem_of_getElem? (i := 2) rfl)) dX12_tried_158 ?_
                refine lv_iload S.1 S.2.1 dX12_tried_161 (lv_at hl 1 rfl) ?_
                obtain ⟨hi, h⟩ := d_g h
                refine d_iald S hE hP dk_461 hi dX12_tried_163 ?_
                refine lv_aload_n S.1 S.2.1 dX12_tried_164 rfl (lv_at hl 3 rfl) ?_
                refine dgf12_27 S in12 hE hP k0 (S.2.2.2.2 (.fieldLink RX12 70 "DrillFieldModel" "triedY" "[I") (List.mem_of_getElem? (i := 3) rfl)) dX12_tried_165 ?_
                refine lv_iload S.1 S.2.1 dX12_tried_168 (lv_at hl 1 rfl) ?_
                obtain ⟨hi, h⟩ := d_g h
                refine d_iald S hE hP dk_462 hi dX12_tried_170 ?_
                obtain ⟨v89, hc88, h⟩ := d_b h
                refine dri (va_runS (As := [.int (m87.1 461 (Int32.toNatClampNeg (v2))), .int (m87.1 462 (Int32.toNatClampNeg (v2)))]) (rest := [.int v3]) S (kX12_isOnField l g hc88) (va_cwS 2 S.2.2.2.2 gX12_tried_X12_isOnField rfl rfl rfl ynX12_isOnField ⟨Nat.le_of_ble_eq_true rfl, Nat.le_of_ble_eq_true rfl⟩) (dpS hE hP hS) rfl rfl hl.1 rfl (lv_room (Nat.le_of_ble_eq_true rfl)) dX12_tried_171 ⟨Nat.le_of_ble_eq_true rfl, Nat.le_of_ble_eq_true rfl⟩) hS (fun H locs hP hS => ?_)
                refine lv_iand S.1 S.2.1 dX12_tried_174 ?_
                refine lv_topi (fun v90 ev90 => ?_)
                have h := d_let ev90 h
                refine lv_istore (lv' := [(6, .int v90), (8, .int v80), (7, .int v2), (0, .ref (dad g p0)), (1, .int p1), (2, .int p2), (3, .int p3), (4, .int p4), (5, .int p5)]) S.1 S.2.1 dX12_tried_175 hl (by decide) rfl (fun ls hl => ?_)
                obtain ⟨v91, ev91⟩ : ∃ z : Int32, z = v2 + 1 := ⟨_, rfl⟩
                have h := d_let ev91 h
                refine lv_iinc (v := v91) (lv' := [(7, .int v91), (6, .int v90), (8, .int v80), (0, .ref (dad g p0)), (1, .int p1), (2, .int p2), (3, .int p3), (4, .int p4), (5, .int p5)]) S.1 S.2.1 dX12_tried_177 hl (k := 2) rfl (by rw [ev91]; rfl) (by decide) rfl (fun ls hl => ?_)
                refine lv_goto (tgt := 6) S.1 S.2.1 dX12_tried_180 (by decide) ?_
                obtain rfl := Option.some.inj h
                exact hCL1 _ rfl H locs ls hP hS (lv_sub hl [0, 1, 3, 4, 5, 6, 7, 8] rfl)
            · have h := d_t cq h
              refine lv_iload_n S.1 S.2.1 dX12_tried_108 rfl (lv_at hl 6 rfl) ?_
              refine lv_iload S.1 S.2.1 dX12_tried_109 (lv_at hl 1 rfl) ?_
              refine lv_iload S.1 S.2.1 dX12_tried_111 (lv_at hl 8 rfl) ?_
              refine lv_iload_n S.1 S.2.1 dX12_tried_113 rfl (lv_at hl 6 rfl) ?_
              refine lv_isub S.1 S.2.1 dX12_tried_114 ?_
              refine lv_imul S.1 S.2.1 dX12_tried_115 ?_
              refine lv_aload_n S.1 S.2.1 dX12_tried_116 rfl (lv_at hl 3 rfl) ?_
              refine dgf12_0 S in12 hE hP k0 (S.2.2.2.2 (.fieldLink RX12 7 "DrillFieldModel" "dots" "I") (List.mem_of_getElem? (i := 1) rfl)) dX12_tried_117 ?_
              refine lv_iconst (v := 1) S.1 S.2.1 dX12_tried_120 (by decide) ?_
              refine lv_isub S.1 S.2.1 dX12_tried_121 ?_
              obtain ⟨v93, hc92, h⟩ := d_b h
              refine dri (va_runS (As := [.int (v2 * (p5 - p3)), .int ((m81.1 p0 0) - 1)]) (rest := [.int p3, .int v2, .ref (dad g 462)]) S (kX12_down l g hc92) (va_cwS 2 S.2.2.2.2 gX12_tried_X12_down rfl rfl rfl ynX12_down ⟨Nat.le_of_ble_eq_true rfl, Nat.le_of_ble_eq_true rfl⟩) (dpS hE hP hS) rfl rfl hl.1 rfl (lv_room (Nat.le_of_ble_eq_true rfl)) dX12_tried_122 ⟨Nat.le_of_ble_eq_true rfl, Nat.le_of_ble_eq_true rfl⟩) hS (fun H locs hP hS => ?_)
              refine lv_iadd S.1 S.2.1 dX12_tried_125 ?_
              refine lv_goto (tgt := 154) S.1 S.2.1 dX12_tried_126 (by decide) ?_
              obtain ⟨hi, h⟩ := d_g h
              refine d_iast S hE hP hS dk_462 hi dX12_tried_154 (fun H locs hP hS => ?_)
              obtain ⟨m94, em94⟩ : ∃ z : dM, z = d1 m81 462 (Int32.toNatClampNeg (v2)) (p3 + v93) := ⟨_, rfl⟩
              have h := d_let em94 h
              rw [← em94] at hP
              refine lv_iload S.1 S.2.1 dX12_tried_155 (lv_at hl 2 rfl) ?_
              refine lv_aload_n S.1 S.2.1 dX12_tried_157 rfl (lv_at hl 3 rfl) ?_
              refine dgf12_26 S in12 hE hP k0 (S.2.2.2.2 (.fieldLink RX12 67 "DrillFieldModel" "triedX" "[I") (List.mem_of_getElem? (i := 2) rfl)) dX12_tried_158 ?_
              refine lv_iload S.1 S.2.1 dX12_tried_161 (lv_at hl 1 rfl) ?_
              obtain ⟨hi, h⟩ := d_g h
              refine d_iald S hE hP dk_461 hi dX12_tried_163 ?_
              refine lv_aload_n S.1 S.2.1 dX12_tried_164 rfl (lv_at hl 3 rfl) ?_
              refine dgf12_27 S in12 hE hP k0 (S.2.2.2.2 (.fieldLink RX12 70 "DrillFieldModel" "triedY" "[I") (List.mem_of_getElem? (i := 3) rfl)) dX12_tried_165 ?_
              refine lv_iload S.1 S.2.1 dX12_tried_168 (lv_at hl 1 rfl) ?_
              obtain ⟨hi, h⟩ := d_g h
              refine d_iald S hE hP dk_462 hi dX12_tried_170 ?_
              obtain ⟨v96, hc95, h⟩ := d_b h
              refine dri (va_runS (As := [.int (m94.1 461 (Int32.toNatClampNeg (v2))), .int (m94.1 462 (Int32.toNatClampNeg (v2)))]) (rest := [.int v3]) S (kX12_isOnField l g hc95) (va_cwS 2 S.2.2.2.2 gX12_tried_X12_isOnField rfl rfl rfl ynX12_isOnField ⟨Nat.le_of_ble_eq_true rfl, Nat.le_of_ble_eq_true rfl⟩) (dpS hE hP hS) rfl rfl hl.1 rfl (lv_room (Nat.le_of_ble_eq_true rfl)) dX12_tried_171 ⟨Nat.le_of_ble_eq_true rfl, Nat.le_of_ble_eq_true rfl⟩) hS (fun H locs hP hS => ?_)
              refine lv_iand S.1 S.2.1 dX12_tried_174 ?_
              refine lv_topi (fun v97 ev97 => ?_)
              have h := d_let ev97 h
              refine lv_istore (lv' := [(6, .int v97), (8, .int v80), (7, .int v2), (0, .ref (dad g p0)), (1, .int p1), (2, .int p2), (3, .int p3), (4, .int p4), (5, .int p5)]) S.1 S.2.1 dX12_tried_175 hl (by decide) rfl (fun ls hl => ?_)
              obtain ⟨v98, ev98⟩ : ∃ z : Int32, z = v2 + 1 := ⟨_, rfl⟩
              have h := d_let ev98 h
              refine lv_iinc (v := v98) (lv' := [(7, .int v98), (6, .int v97), (8, .int v80), (0, .ref (dad g p0)), (1, .int p1), (2, .int p2), (3, .int p3), (4, .int p4), (5, .int p5)]) S.1 S.2.1 dX12_tried_177 hl (k := 2) rfl (by rw [ev98]; rfl) (by decide) rfl (fun ls hl => ?_)
              refine lv_goto (tgt := 6) S.1 S.2.1 dX12_tried_180 (by decide) ?_
              obtain rfl := Option.some.inj h
              exact hCL1 _ rfl H locs ls hP hS (lv_sub hl [0, 1, 3, 4, 5, 6, 7, 8] rfl)
          · have h := d_t cq h
            refine lv_iload_n S.1 S.2.1 dX12_tried_80 rfl (lv_at hl 5 rfl) ?_
            refine lv_iload S.1 S.2.1 dX12_tried_81 (lv_at hl 7 rfl) ?_
            refine lv_iload S.1 S.2.1 dX12_tried_83 (lv_at hl 0 rfl) ?_
            refine lv_imul S.1 S.2.1 dX12_tried_85 ?_
            refine lv_isub S.1 S.2.1 dX12_tried_86 ?_
            refine lv_goto (tgt := 97) S.1 S.2.1 dX12_tried_87 (by decide) ?_
            obtain ⟨hi, h⟩ := d_g h
            refine d_iast S hE hP hS dk_461 hi dX12_tried_97 (fun H locs hP hS => ?_)
            obtain ⟨m99, em99⟩ : ∃ z : dM, z = d1 m4 461 (Int32.toNatClampNeg (v2)) (p2 - (p4 * v80)) := ⟨_, rfl⟩
            have h := d_let em99 h
            rw [← em99] at hP
            refine lv_aload_n S.1 S.2.1 dX12_tried_98 rfl (lv_at hl 3 rfl) ?_
            refine dgf12_27 S in12 hE hP k0 (S.2.2.2.2 (.fieldLink RX12 70 "DrillFieldModel" "triedY" "[I") (List.mem_of_getElem? (i := 3) rfl)) dX12_tried_99 ?_
            refine lv_iload S.1 S.2.1 dX12_tried_102 (lv_at hl 1 rfl) ?_
            refine lv_iload_n S.1 S.2.1 dX12_tried_104 rfl (lv_at hl 4 rfl) ?_
            refine lv_if_ne (tgt := 129) S.1 S.2.1 dX12_tried_105 (by decide) (fun cq => ?_) (fun cq => ?_)
            · have h := d_f cq h
              refine lv_iload_n S.1 S.2.1 dX12_tried_129 rfl (lv_at hl 4 rfl) ?_
              refine lv_iconst (v := 1) S.1 S.2.1 dX12_tried_130 (by decide) ?_
              refine lv_icmp_ne (tgt := 147) S.1 S.2.1 dX12_tried_131 (by decide) (fun cq => ?_) (fun cq => ?_)
              · have h := d_f cq h
                refine lv_iload_n S.1 S.2.1 dX12_tried_147 rfl (lv_at hl 6 rfl) ?_
                refine lv_iload S.1 S.2.1 dX12_tried_148 (lv_at hl 7 rfl) ?_
                refine lv_iload S.1 S.2.1 dX12_tried_150 (lv_at hl 0 rfl) ?_
                refine lv_imul S.1 S.2.1 dX12_tried_152 ?_
                refine lv_iadd S.1 S.2.1 dX12_tried_153 ?_
                obtain ⟨hi, h⟩ := d_g h
                refine d_iast S hE hP hS dk_462 hi dX12_tried_154 (fun H locs hP hS => ?_)
                obtain ⟨m100, em100⟩ : ∃ z : dM, z = d1 m99 462 (Int32.toNatClampNeg (v2)) (p3 + (p4 * v80)) := ⟨_, rfl⟩
                have h := d_let em100 h
                rw [← em100] at hP
                refine lv_iload S.1 S.2.1 dX12_tried_155 (lv_at hl 2 rfl) ?_
                refine lv_aload_n S.1 S.2.1 dX12_tried_157 rfl (lv_at hl 3 rfl) ?_
                refine dgf12_26 S in12 hE hP k0 (S.2.2.2.2 (.fieldLink RX12 67 "DrillFieldModel" "triedX" "[I") (List.mem_of_getElem? (i := 2) rfl)) dX12_tried_158 ?_
                refine lv_iload S.1 S.2.1 dX12_tried_161 (lv_at hl 1 rfl) ?_
                obtain ⟨hi, h⟩ := d_g h
                refine d_iald S hE hP dk_461 hi dX12_tried_163 ?_
                refine lv_aload_n S.1 S.2.1 dX12_tried_164 rfl (lv_at hl 3 rfl) ?_
                refine dgf12_27 S in12 hE hP k0 (S.2.2.2.2 (.fieldLink RX12 70 "DrillFieldModel" "triedY" "[I") (List.mem_of_getElem? (i := 3) rfl)) dX12_tried_165 ?_
                refine lv_iload S.1 S.2.1 dX12_tried_168 (lv_at hl 1 rfl) ?_
                obtain ⟨hi, h⟩ := d_g h
                refine d_iald S hE hP dk_462 hi dX12_tried_170 ?_
                obtain ⟨v102, hc101, h⟩ := d_b h
                refine dri (va_runS (As := [.int (m100.1 461 (Int32.toNatClampNeg (v2))), .int (m100.1 462 (Int32.toNatClampNeg (v2)))]) (rest := [.int v3]) S (kX12_isOnField l g hc101) (va_cwS 2 S.2.2.2.2 gX12_tried_X12_isOnField rfl rfl rfl ynX12_isOnField ⟨Nat.le_of_ble_eq_true rfl, Nat.le_of_ble_eq_true rfl⟩) (dpS hE hP hS) rfl rfl hl.1 rfl (lv_room (Nat.le_of_ble_eq_true rfl)) dX12_tried_171 ⟨Nat.le_of_ble_eq_true rfl, Nat.le_of_ble_eq_true rfl⟩) hS (fun H locs hP hS => ?_)
                refine lv_iand S.1 S.2.1 dX12_tried_174 ?_
                refine lv_topi (fun v103 ev103 => ?_)
                have h := d_let ev103 h
                refine lv_istore (lv' := [(6, .int v103), (8, .int v80), (7, .int v2), (0, .ref (dad g p0)), (1, .int p1), (2, .int p2), (3, .int p3), (4, .int p4), (5, .int p5)]) S.1 S.2.1 dX12_tried_175 hl (by decide) rfl (fun ls hl => ?_)
                obtain ⟨v104, ev104⟩ : ∃ z : Int32, z = v2 + 1 := ⟨_, rfl⟩
                have h := d_let ev104 h
                refine lv_iinc (v := v104) (lv' := [(7, .int v104), (6, .int v103), (8, .int v80), (0, .ref (dad g p0)), (1, .int p1), (2, .int p2), (3, .int p3), (4, .int p4), (5, .int p5)]) S.1 S.2.1 dX12_tried_177 hl (k := 2) rfl (by rw [ev104]; rfl) (by decide) rfl (fun ls hl => ?_)
                refine lv_goto (tgt := 6) S.1 S.2.1 dX12_tried_180 (by decide) ?_
                obtain rfl := Option.some.inj h
                exact hCL1 _ rfl H locs ls hP hS (lv_sub hl [0, 1, 3, 4, 5, 6, 7, 8] rfl)
              · have h := d_t cq h
                refine lv_iload_n S.1 S.2.1 dX12_tried_134 rfl (lv_at hl 6 rfl) ?_
                refine lv_iload S.1 S.2.1 dX12_tried_135 (lv_at hl 8 rfl) ?_
                refine lv_iload S.1 S.2.1 dX12_tried_137 (lv_at hl 1 rfl) ?_
                refine lv_iload S.1 S.2.1 dX12_tried_139 (lv_at hl 7 rfl) ?_
                obtain ⟨hz, h⟩ := d_g h
                refine lv_idiv S.1 S.2.1 dX12_tried_141 (of_decide_eq_true hz) ?_
                refine lv_imul S.1 S.2.1 dX12_tried_142 ?_
                refine lv_iadd S.1 S.2.1 dX12_tried_143 ?_
                refine lv_goto (tgt := 154) S.1 S.2.1 dX12_tried_144 (by decide) ?_
                obtain ⟨hi, h⟩ := d_g h
                refine d_iast S hE hP hS dk_462 hi dX12_tried_154 (fun H locs hP hS => ?_)
                obtain ⟨m105, em105⟩ : ∃ z : dM, z = d1 m99 462 (Int32.toNatClampNeg (v2)) (p3 + (p5 * (v2 / p4))) := ⟨_, rfl⟩
                have h := d_let em105 h
                rw [← em105] at hP
                refine lv_iload S.1 S.2.1 dX12_tried_155 (lv_at hl 2 rfl) ?_
                refine lv_aload_n S.1 S.2.1 dX12_tried_157 rfl (lv_at hl 3 rfl) ?_
                refine dgf12_26 S in12 hE hP k0 (S.2.2.2.2 (.fieldLink RX12 67 "DrillFieldModel" "triedX" "[I") (List.mem_of_getElem? (i := 2) rfl)) dX12_tried_158 ?_
                refine lv_iload S.1 S.2.1 dX12_tried_161 (lv_at hl 1 rfl) ?_
                obtain ⟨hi, h⟩ := d_g h
                refine d_iald S hE hP dk_461 hi dX12_tried_163 ?_
                refine lv_aload_n S.1 S.2.1 dX12_tried_164 rfl (lv_at hl 3 rfl) ?_
                refine dgf12_27 S in12 hE hP k0 (S.2.2.2.2 (.fieldLink RX12 70 "DrillFieldModel" "triedY" "[I") (List.mem_of_getElem? (i := 3) rfl)) dX12_tried_165 ?_
                refine lv_iload S.1 S.2.1 dX12_tried_168 (lv_at hl 1 rfl) ?_
                obtain ⟨hi, h⟩ := d_g h
                refine d_iald S hE hP dk_462 hi dX12_tried_170 ?_
                obtain ⟨v107, hc106, h⟩ := d_b h
                refine dri (va_runS (As := [.int (m105.1 461 (Int32.toNatClampNeg (v2))), .int (m105.1 462 (Int32.toNatClampNeg (v2)))]) (rest := [.int v3]) S (kX12_isOnField l g hc106) (va_cwS 2 S.2.2.2.2 gX12_tried_X12_isOnField rfl rfl rfl ynX12_isOnField ⟨Nat.le_of_ble_eq_true rfl, Nat.le_of_ble_eq_true rfl⟩) (dpS hE hP hS) rfl rfl hl.1 rfl (lv_room (Nat.le_of_ble_eq_true rfl)) dX12_tried_171 ⟨Nat.le_of_ble_eq_true rfl, Nat.le_of_ble_eq_true rfl⟩) hS (fun H locs hP hS => ?_)
                refine lv_iand S.1 S.2.1 dX12_tried_174 ?_
                refine lv_topi (fun v108 ev108 => ?_)
                have h := d_let ev108 h
                refine lv_istore (lv' := [(6, .int v108), (8, .int v80), (7, .int v2), (0, .ref (dad g p0)), (1, .int p1), (2, .int p2), (3, .int p3), (4, .int p4), (5, .int p5)]) S.1 S.2.1 dX12_tried_175 hl (by decide) rfl (fun ls hl => ?_)
                obtain ⟨v109, ev109⟩ : ∃ z : Int32, z = v2 + 1 := ⟨_, rfl⟩
                have h := d_let ev109 h
                refine lv_iinc (v := v109) (lv' := [(7, .int v109), (6, .int v108), (8, .int v80), (0, .ref (dad g p0)), (1, .int p1), (2, .int p2), (3, .int p3), (4, .int p4), (5, .int p5)]) S.1 S.2.1 dX12_tried_177 hl (k := 2) rfl (by rw [ev109]; rfl) (by decide) rfl (fun ls hl => ?_)
                refine lv_goto (tgt := 6) S.1 S.2.1 dX12_tried_180 (by decide) ?_
                obtain rfl := Option.some.inj h
                exact hCL1 _ rfl H locs ls hP hS (lv_sub hl [0, 1, 3, 4, 5, 6, 7, 8] rfl)
            · have h := d_t cq h
              refine lv_iload_n S.1 S.2.1 dX12_tried_108 rfl (lv_at hl 6 rfl) ?_
              refine lv_iload S.1 S.2.1 dX12_tried_109 (lv_at hl 1 rfl) ?_
              refine lv_iload S.1 S.2.1 dX12_tried_111 (lv_at hl 8 rfl) ?_
              refine lv_iload_n S.1 S.2.1 dX12_tried_113 rfl (lv_at hl 6 rfl) ?_
              refine lv_isub S.1 S.2.1 dX12_tried_114 ?_
              refine lv_imul S.1 S.2.1 dX12_tried_115 ?_
              refine lv_aload_n S.1 S.2.1 dX12_tried_116 rfl (lv_at hl 3 rfl) ?_
              refine dgf12_0 S in12 hE hP k0 (S.2.2.2.2 (.fieldLink RX12 7 "DrillFieldModel" "dots" "I") (List.mem_of_getElem? (i := 1) rfl)) dX12_tried_117 ?_
              refine lv_iconst (v := 1) S.1 S.2.1 dX12_tried_120 (by decide) ?_
              refine lv_isub S.1 S.2.1 dX12_tried_121 ?_
              obtain ⟨v111, hc110, h⟩ := d_b h
              refine dri (va_runS (As := [.int (v2 * (p5 - p3)), .int ((m99.1 p0 0) - 1)]) (rest := [.int p3, .int v2, .ref (dad g 462)]) S (kX12_down l g hc110) (va_cwS 2 S.2.2.2.2 gX12_tried_X12_down rfl rfl rfl ynX12_down ⟨Nat.le_of_ble_eq_true rfl, Nat.le_of_ble_eq_true rfl⟩) (dpS hE hP hS) rfl rfl hl.1 rfl (lv_room (Nat.le_of_ble_eq_true rfl)) dX12_tried_122 ⟨Nat.le_of_ble_eq_true rfl, Nat.le_of_ble_eq_true rfl⟩) hS (fun H locs hP hS => ?_)
              refine lv_iadd S.1 S.2.1 dX12_tried_125 ?_
              refine lv_goto (tgt := 154) S.1 S.2.1 dX12_tried_126 (by decide) ?_
              obtain ⟨hi, h⟩ := d_g h
              refine d_iast S hE hP hS dk_462 hi dX12_tried_154 (fun H locs hP hS => ?_)
              obtain ⟨m112, em112⟩ : ∃ z : dM, z = d1 m99 462 (Int32.toNatClampNeg (v2)) (p3 + v111) := ⟨_, rfl⟩
              have h := d_let em112 h
              rw [← em112] at hP
              refine lv_iload S.1 S.2.1 dX12_tried_155 (lv_at hl 2 rfl) ?_
              refine lv_aload_n S.1 S.2.1 dX12_tried_157 rfl (lv_at hl 3 rfl) ?_
              refine dgf12_26 S in12 hE hP k0 (S.2.2.2.2 (.fieldLink RX12 67 "DrillFieldModel" "triedX" "[I") (List.mem_of_getElem? (i := 2) rfl)) dX12_tried_158 ?_
              refine lv_iload S.1 S.2.1 dX12_tried_161 (lv_at hl 1 rfl) ?_
              obtain ⟨hi, h⟩ := d_g h
              refine d_iald S hE hP dk_461 hi dX12_tried_163 ?_
              refine lv_aload_n S.1 S.2.1 dX12_tried_164 rfl (lv_at hl 3 rfl) ?_
              refine dgf12_27 S in12 hE hP k0 (S.2.2.2.2 (.fieldLink RX12 70 "DrillFieldModel" "triedY" "[I") (List.mem_of_getElem? (i := 3) rfl)) dX12_tried_165 ?_
              refine lv_iload S.1 S.2.1 dX12_tried_168 (lv_at hl 1 rfl) ?_
              obtain ⟨hi, h⟩ := d_g h
              refine d_iald S hE hP dk_462 hi dX12_tried_170 ?_
              obtain ⟨v114, hc113, h⟩ := d_b h
              refine dri (va_runS (As := [.int (m112.1 461 (Int32.toNatClampNeg (v2))), .int (m112.1 462 (Int32.toNatClampNeg (v2)))]) (rest := [.int v3]) S (kX12_isOnField l g hc113) (va_cwS 2 S.2.2.2.2 gX12_tried_X12_isOnField rfl rfl rfl ynX12_isOnField ⟨Nat.le_of_ble_eq_true rfl, Nat.le_of_ble_eq_true rfl⟩) (dpS hE hP hS) rfl rfl hl.1 rfl (lv_room (Nat.le_of_ble_eq_true rfl)) dX12_tried_171 ⟨Nat.le_of_ble_eq_true rfl, Nat.le_of_ble_eq_true rfl⟩) hS (fun H locs hP hS => ?_)
              refine lv_iand S.1 S.2.1 dX12_tried_174 ?_
              refine lv_topi (fun v115 ev115 => ?_)
              have h := d_let ev115 h
              refine lv_istore (lv' := [(6, .int v115), (8, .int v80), (7, .int v2), (0, .ref (dad g p0)), (1, .int p1), (2, .int p2), (3, .int p3), (4, .int p4), (5, .int p5)]) S.1 S.2.1 dX12_tried_175 hl (by decide) rfl (fun ls hl => ?_)
              obtain ⟨v116, ev116⟩ : ∃ z : Int32, z = v2 + 1 := ⟨_, rfl⟩
              have h := d_let ev116 h
              refine lv_iinc (v := v116) (lv' := [(7, .int v116), (6, .int v115), (8, .int v80), (0, .ref (dad g p0)), (1, .int p1), (2, .int p2), (3, .int p3), (4, .int p4), (5, .int p5)]) S.1 S.2.1 dX12_tried_177 hl (k := 2) rfl (by rw [ev116]; rfl) (by decide) rfl (fun ls hl => ?_)
              refine lv_goto (tgt := 6) S.1 S.2.1 dX12_tried_180 (by decide) ?_
              obtain rfl := Option.some.inj h
              exact hCL1 _ rfl H locs ls hP hS (lv_sub hl [0, 1, 3, 4, 5, 6, 7, 8] rfl)
        · have h := d_t cq h
          refine lv_iload_n S.1 S.2.1 dX12_tried_59 rfl (lv_at hl 5 rfl) ?_
          refine lv_iload S.1 S.2.1 dX12_tried_60 (lv_at hl 8 rfl) ?_
          refine lv_iload S.1 S.2.1 dX12_tried_62 (lv_at hl 1 rfl) ?_
          refine lv_iload S.1 S.2.1 dX12_tried_64 (lv_at hl 7 rfl) ?_
          obtain ⟨hz, h⟩ := d_g h
          refine lv_irem S.1 S.2.1 dX12_tried_66 (of_decide_eq_true hz) ?_
          refine lv_imul S.1 S.2.1 dX12_tried_67 ?_
          refine lv_iadd S.1 S.2.1 dX12_tried_68 ?_
          refine lv_goto (tgt := 97) S.1 S.2.1 dX12_tried_69 (by decide) ?_
          obtain ⟨hi, h⟩ := d_g h
          refine d_iast S hE hP hS dk_461 hi dX12_tried_97 (fun H locs hP hS => ?_)
          obtain ⟨m117, em117⟩ : ∃ z : dM, z = d1 m4 461 (Int32.toNatClampNeg (v2)) (p2 + (p5 * (v2 - v2 / p4 * p4))) := ⟨_, rfl⟩
          have h := d_let em117 h
          rw [← em117] at hP
          refine lv_aload_n S.1 S.2.1 dX12_tried_98 rfl (lv_at hl 3 rfl) ?_
          refine dgf12_27 S in12 hE hP k0 (S.2.2.2.2 (.fieldLink RX12 70 "DrillFieldModel" "triedY" "[I") (List.mem_of_getElem? (i := 3) rfl)) dX12_tried_99 ?_
          refine lv_iload S.1 S.2.1 dX12_tried_102 (lv_at hl 1 rfl) ?_
          refine lv_iload_n S.1 S.2.1 dX12_tried_104 rfl (lv_at hl 4 rfl) ?_
          refine lv_if_ne (tgt := 129) S.1 S.2.1 dX12_tried_105 (by decide) (fun cq => ?_) (fun cq => ?_)
          · have h := d_f cq h
            refine lv_iload_n S.1 S.2.1 dX12_tried_129 rfl (lv_at hl 4 rfl) ?_
            refine lv_iconst (v := 1) S.1 S.2.1 dX12_tried_130 (by decide) ?_
            refine lv_icmp_ne (tgt := 147) S.1 S.2.1 dX12_tried_131 (by decide) (fun cq => ?_) (fun cq => ?_)
            · have h := d_f cq h
              refine lv_iload_n S.1 S.2.1 dX12_tried_147 rfl (lv_at hl 6 rfl) ?_
              refine lv_iload S.1 S.2.1 dX12_tried_148 (lv_at hl 7 rfl) ?_
              refine lv_iload S.1 S.2.1 dX12_tried_150 (lv_at hl 0 rfl) ?_
              refine lv_imul S.1 S.2.1 dX12_tried_152 ?_
              refine lv_iadd S.1 S.2.1 dX12_tried_153 ?_
              obtain ⟨hi, h⟩ := d_g h
              refine d_iast S hE hP hS dk_462 hi dX12_tried_154 (fun H locs hP hS => ?_)
              obtain ⟨m118, em118⟩ : ∃ z : dM, z = d1 m117 462 (Int32.toNatClampNeg (v2)) (p3 + (p4 * v80)) := ⟨_, rfl⟩
              have h := d_let em118 h
              rw [← em118] at hP
              refine lv_iload S.1 S.2.1 dX12_tried_155 (lv_at hl 2 rfl) ?_
              refine lv_aload_n S.1 S.2.1 dX12_tried_157 rfl (lv_at hl 3 rfl) ?_
              refine dgf12_26 S in12 hE hP k0 (S.2.2.2.2 (.fieldLink RX12 67 "DrillFieldModel" "triedX" "[I") (List.mem_of_getElem? (i := 2) rfl)) dX12_tried_158 ?_
              refine lv_iload S.1 S.2.1 dX12_tried_161 (lv_at hl 1 rfl) ?_
              obtain ⟨hi, h⟩ := d_g h
              refine d_iald S hE hP dk_461 hi dX12_tried_163 ?_
              refine lv_aload_n S.1 S.2.1 dX12_tried_164 rfl (lv_at hl 3 rfl) ?_
              refine dgf12_27 S in12 hE hP k0 (S.2.2.2.2 (.fieldLink RX12 70 "DrillFieldModel" "triedY" "[I") (List.mem_of_getElem? (i := 3) rfl)) dX12_tried_165 ?_
              refine lv_iload S.1 S.2.1 dX12_tried_168 (lv_at hl 1 rfl) ?_
              obtain ⟨hi, h⟩ := d_g h
              refine d_iald S hE hP dk_462 hi dX12_tried_170 ?_
              obtain ⟨v120, hc119, h⟩ := d_b h
              refine dri (va_runS (As := [.int (m118.1 461 (Int32.toNatClampNeg (v2))), .int (m118.1 462 (Int32.toNatClampNeg (v2)))]) (rest := [.int v3]) S (kX12_isOnField l g hc119) (va_cwS 2 S.2.2.2.2 gX12_tried_X12_isOnField rfl rfl rfl ynX12_isOnField ⟨Nat.le_of_ble_eq_true rfl, Nat.le_of_ble_eq_true rfl⟩) (dpS hE hP hS) rfl rfl hl.1 rfl (lv_room (Nat.le_of_ble_eq_true rfl)) dX12_tried_171 ⟨Nat.le_of_ble_eq_true rfl, Nat.le_of_ble_eq_true rfl⟩) hS (fun H locs hP hS => ?_)
              refine lv_iand S.1 S.2.1 dX12_tried_174 ?_
              refine lv_topi (fun v121 ev121 => ?_)
              have h := d_let ev121 h
              refine lv_istore (lv' := [(6, .int v121), (8, .int v80), (7, .int v2), (0, .ref (dad g p0)), (1, .int p1), (2, .int p2), (3, .int p3), (4, .int p4), (5, .int p5)]) S.1 S.2.1 dX12_tried_175 hl (by decide) rfl (fun ls hl => ?_)
              obtain ⟨v122, ev122⟩ : ∃ z : Int32, z = v2 + 1 := ⟨_, rfl⟩
              have h := d_let ev122 h
              refine lv_iinc (v := v122) (lv' := [(7, .int v122), (6, .int v121), (8, .int v80), (0, .ref (dad g p0)), (1, .int p1), (2, .int p2), (3, .int p3), (4, .int p4), (5, .int p5)]) S.1 S.2.1 dX12_tried_177 hl (k := 2) rfl (by rw [ev122]; rfl) (by decide) rfl (fun ls hl => ?_)
              refine lv_goto (tgt := 6) S.1 S.2.1 dX12_tried_180 (by decide) ?_
              obtain rfl := Option.some.inj h
              exact hCL1 _ rfl H locs ls hP hS (lv_sub hl [0, 1, 3, 4, 5, 6, 7, 8] rfl)
            · have h := d_t cq h
              refine lv_iload_n S.1 S.2.1 dX12_tried_134 rfl (lv_at hl 6 rfl) ?_
              refine lv_iload S.1 S.2.1 dX12_tried_135 (lv_at hl 8 rfl) ?_
              refine lv_iload S.1 S.2.1 dX12_tried_137 (lv_at hl 1 rfl) ?_
              refine lv_iload S.1 S.2.1 dX12_tried_139 (lv_at hl 7 rfl) ?_
              obtain ⟨hz, h⟩ := d_g h
              refine lv_idiv S.1 S.2.1 dX12_tried_141 (of_decide_eq_true hz) ?_
              refine lv_imul S.1 S.2.1 dX12_tried_142 ?_
              refine lv_iadd S.1 S.2.1 dX12_tried_143 ?_
              refine lv_goto (tgt := 154) S.1 S.2.1 dX12_tried_144 (by decide) ?_
              obtain ⟨hi, h⟩ := d_g h
              refine d_iast S hE hP hS dk_462 hi dX12_tried_154 (fun H locs hP hS => ?_)
              obtain ⟨m123, em123⟩ : ∃ z : dM, z = d1 m117 462 (Int32.toNatClampNeg (v2)) (p3 + (p5 * (v2 / p4))) := ⟨_, rfl⟩
              have h := d_let em123 h
              rw [← em123] at hP
              refine lv_iload S.1 S.2.1 dX12_tried_155 (lv_at hl 2 rfl) ?_
              refine lv_aload_n S.1 S.2.1 dX12_tried_157 rfl (lv_at hl 3 rfl) ?_
              refine dgf12_26 S in12 hE hP k0 (S.2.2.2.2 (.fieldLink RX12 67 "DrillFieldModel" "triedX" "[I") (List.mem_of_getElem? (i := 2) rfl)) dX12_tried_158 ?_
              refine lv_iload S.1 S.2.1 dX12_tried_161 (lv_at hl 1 rfl) ?_
              obtain ⟨hi, h⟩ := d_g h
              refine d_iald S hE hP dk_461 hi dX12_tried_163 ?_
              refine lv_aload_n S.1 S.2.1 dX12_tried_164 rfl (lv_at hl 3 rfl) ?_
              refine dgf12_27 S in12 hE hP k0 (S.2.2.2.2 (.fieldLink RX12 70 "DrillFieldModel" "triedY" "[I") (List.mem_of_getElem? (i := 3) rfl)) dX12_tried_165 ?_
              refine lv_iload S.1 S.2.1 dX12_tried_168 (lv_at hl 1 rfl) ?_
              obtain ⟨hi, h⟩ := d_g h
              refine d_iald S hE hP dk_462 hi dX12_tried_170 ?_
              obtain ⟨v125, hc124, h⟩ := d_b h
              refine dri (va_runS (As := [.int (m123.1 461 (Int32.toNatClampNeg (v2))), .int (m123.1 462 (Int32.toNatClampNeg (v2)))]) (rest := [.int v3]) S (kX12_isOnField l g hc124) (va_cwS 2 S.2.2.2.2 gX12_tried_X12_isOnField rfl rfl rfl ynX12_isOnField ⟨Nat.le_of_ble_eq_true rfl, Nat.le_of_ble_eq_true rfl⟩) (dpS hE hP hS) rfl rfl hl.1 rfl (lv_room (Nat.le_of_ble_eq_true rfl)) dX12_tried_171 ⟨Nat.le_of_ble_eq_true rfl, Nat.le_of_ble_eq_true rfl⟩) hS (fun H locs hP hS => ?_)
              refine lv_iand S.1 S.2.1 dX12_tried_174 ?_
              refine lv_topi (fun v126 ev126 => ?_)
              have h := d_let ev126 h
              refine lv_istore (lv' := [(6, .int v126), (8, .int v80), (7, .int v2), (0, .ref (dad g p0)), (1, .int p1), (2, .int p2), (3, .int p3), (4, .int p4), (5, .int p5)]) S.1 S.2.1 dX12_tried_175 hl (by decide) rfl (fun ls hl => ?_)
              obtain ⟨v127, ev127⟩ : ∃ z : Int32, z = v2 + 1 := ⟨_, rfl⟩
              have h := d_let ev127 h
              refine lv_iinc (v := v127) (lv' := [(7, .int v127), (6, .int v126), (8, .int v80), (0, .ref (dad g p0)), (1, .int p1), (2, .int p2), (3, .int p3), (4, .int p4), (5, .int p5)]) S.1 S.2.1 dX12_tried_177 hl (k := 2) rfl (by rw [ev127]; rfl) (by decide) rfl (fun ls hl => ?_)
              refine lv_goto (tgt := 6) S.1 S.2.1 dX12_tried_180 (by decide) ?_
              obtain rfl := Option.some.inj h
              exact hCL1 _ rfl H locs ls hP hS (lv_sub hl [0, 1, 3, 4, 5, 6, 7, 8] rfl)
          · have h := d_t cq h
            refine lv_iload_n S.1 S.2.1 dX12_tried_108 rfl (lv_at hl 6 rfl) ?_
            refine lv_iload S.1 S.2.1 dX12_tried_109 (lv_at hl 1 rfl) ?_
            refine lv_iload S.1 S.2.1 dX12_tried_111 (lv_at hl 8 rfl) ?_
            refine lv_iload_n S.1 S.2.1 dX12_tried_113 rfl (lv_at hl 6 rfl) ?_
            refine lv_isub S.1 S.2.1 dX12_tried_114 ?_
            refine lv_imul S.1 S.2.1 dX12_tried_115 ?_
            refine lv_aload_n S.1 S.2.1 dX12_tried_116 rfl (lv_at hl 3 rfl) ?_
            refine dgf12_0 S in12 hE hP k0 (S.2.2.2.2 (.fieldLink RX12 7 "DrillFieldModel" "dots" "I") (List.mem_of_getElem? (i := 1) rfl)) dX12_tried_117 ?_
            refine lv_iconst (v := 1) S.1 S.2.1 dX12_tried_120 (by decide) ?_
            refine lv_isub S.1 S.2.1 dX12_tried_121 ?_
            obtain ⟨v129, hc128, h⟩ := d_b h
            refine dri (va_runS (As := [.int (v2 * (p5 - p3)), .int ((m117.1 p0 0) - 1)]) (rest := [.int p3, .int v2, .ref (dad g 462)]) S (kX12_down l g hc128) (va_cwS 2 S.2.2.2.2 gX12_tried_X12_down rfl rfl rfl ynX12_down ⟨Nat.le_of_ble_eq_true rfl, Nat.le_of_ble_eq_true rfl⟩) (dpS hE hP hS) rfl rfl hl.1 rfl (lv_room (Nat.le_of_ble_eq_true rfl)) dX12_tried_122 ⟨Nat.le_of_ble_eq_true rfl, Nat.le_of_ble_eq_true rfl⟩) hS (fun H locs hP hS => ?_)
            refine lv_iadd S.1 S.2.1 dX12_tried_125 ?_
            refine lv_goto (tgt := 154) S.1 S.2.1 dX12_tried_126 (by decide) ?_
            obtain ⟨hi, h⟩ := d_g h
            refine d_iast S hE hP hS dk_462 hi dX12_tried_154 (fun H locs hP hS => ?_)
            obtain ⟨m130, em130⟩ : ∃ z : dM, z = d1 m117 462 (Int32.toNatClampNeg (v2)) (p3 + v129) := ⟨_, rfl⟩
            have h := d_let em130 h
            rw [← em130] at hP
            refine lv_iload S.1 S.2.1 dX12_tried_155 (lv_at hl 2 rfl) ?_
            refine lv_aload_n S.1 S.2.1 dX12_tried_157 rfl (lv_at hl 3 rfl) ?_
            refine dgf12_26 S in12 hE hP k0 (S.2.2.2.2 (.fieldLink RX12 67 "DrillFieldModel" "triedX" "[I") (List.mem_of_getElem? (i := 2) rfl)) dX12_tried_158 ?_
            refine lv_iload S.1 S.2.1 dX12_tried_161 (lv_at hl 1 rfl) ?_
            obtain ⟨hi, h⟩ := d_g h
            refine d_iald S hE hP dk_461 hi dX12_tried_163 ?_
            refine lv_aload_n S.1 S.2.1 dX12_tried_164 rfl (lv_at hl 3 rfl) ?_
            refine dgf12_27 S in12 hE hP k0 (S.2.2.2.2 (.fieldLink RX12 70 "DrillFieldModel" "triedY" "[I") (List.mem_of_getElem? (i := 3) rfl)) dX12_tried_165 ?_
            refine lv_iload S.1 S.2.1 dX12_tried_168 (lv_at hl 1 rfl) ?_
            obtain ⟨hi, h⟩ := d_g h
            refine d_iald S hE hP dk_462 hi dX12_tried_170 ?_
            obtain ⟨v132, hc131, h⟩ := d_b h
            refine dri (va_runS (As := [.int (m130.1 461 (Int32.toNatClampNeg (v2))), .int (m130.1 462 (Int32.toNatClampNeg (v2)))]) (rest := [.int v3]) S (kX12_isOnField l g hc131) (va_cwS 2 S.2.2.2.2 gX12_tried_X12_isOnField rfl rfl rfl ynX12_isOnField ⟨Nat.le_of_ble_eq_true rfl, Nat.le_of_ble_eq_true rfl⟩) (dpS hE hP hS) rfl rfl hl.1 rfl (lv_room (Nat.le_of_ble_eq_true rfl)) dX12_tried_171 ⟨Nat.le_of_ble_eq_true rfl, Nat.le_of_ble_eq_true rfl⟩) hS (fun H locs hP hS => ?_)
            refine lv_iand S.1 S.2.1 dX12_tried_174 ?_
            refine lv_topi (fun v133 ev133 => ?_)
            have h := d_let ev133 h
            refine lv_istore (lv' := [(6, .int v133), (8, .int v80), (7, .int v2), (0, .ref (dad g p0)), (1, .int p1), (2, .int p2), (3, .int p3), (4, .int p4), (5, .int p5)]) S.1 S.2.1 dX12_tried_175 hl (by decide) rfl (fun ls hl => ?_)
            obtain ⟨v134, ev134⟩ : ∃ z : Int32, z = v2 + 1 := ⟨_, rfl⟩
            have h := d_let ev134 h
            refine lv_iinc (v := v134) (lv' := [(7, .int v134), (6, .int v133), (8, .int v80), (0, .ref (dad g p0)), (1, .int p1), (2, .int p2), (3, .int p3), (4, .int p4), (5, .int p5)]) S.1 S.2.1 dX12_tried_177 hl (k := 2) rfl (by rw [ev134]; rfl) (by decide) rfl (fun ls hl => ?_)
            refine lv_goto (tgt := 6) S.1 S.2.1 dX12_tried_180 (by decide) ?_
            obtain rfl := Option.some.inj h
            exact hCL1 _ rfl H locs ls hP hS (lv_sub hl [0, 1, 3, 4, 5, 6, 7, 8] rfl)
      · have h := d_t cq h
        refine lv_iload_n S.1 S.2.1 dX12_tried_33 rfl (lv_at hl 5 rfl) ?_
        refine lv_iload S.1 S.2.1 dX12_tried_34 (lv_at hl 1 rfl) ?_
        refine lv_iload S.1 S.2.1 dX12_tried_36 (lv_at hl 7 rfl) ?_
        refine lv_iload_n S.1 S.2.1 dX12_tried_38 rfl (lv_at hl 5 rfl) ?_
        refine lv_isub S.1 S.2.1 dX12_tried_39 ?_
        refine lv_imul S.1 S.2.1 dX12_tried_40 ?_
        refine lv_aload_n S.1 S.2.1 dX12_tried_41 rfl (lv_at hl 3 rfl) ?_
        refine dgf12_0 S in12 hE hP k0 (S.2.2.2.2 (.fieldLink RX12 7 "DrillFieldModel" "dots" "I") (List.mem_of_getElem? (i := 1) rfl)) dX12_tried_42 ?_
        refine lv_iconst (v := 1) S.1 S.2.1 dX12_tried_45 (by decide) ?_
        refine lv_isub S.1 S.2.1 dX12_tried_46 ?_
        obtain ⟨v136, hc135, h⟩ := d_b h
        refine dri (va_runS (As := [.int (v2 * (p4 - p2)), .int ((m4.1 p0 0) - 1)]) (rest := [.int p2, .int v2, .ref (dad g 461)]) S (kX12_down l g hc135) (va_cwS 2 S.2.2.2.2 gX12_tried_X12_down rfl rfl rfl ynX12_down ⟨Nat.le_of_ble_eq_true rfl, Nat.le_of_ble_eq_true rfl⟩) (dpS hE hP hS) rfl rfl hl.1 rfl (lv_room (Nat.le_of_ble_eq_true rfl)) dX12_tried_47 ⟨Nat.le_of_ble_eq_true rfl, Nat.le_of_ble_eq_true rfl⟩) hS (fun H locs hP hS => ?_)
        refine lv_iadd S.1 S.2.1 dX12_tried_50 ?_
        refine lv_goto (tgt := 97) S.1 S.2.1 dX12_tried_51 (by decide) ?_
        obtain ⟨hi, h⟩ := d_g h
        refine d_iast S hE hP hS dk_461 hi dX12_tried_97 (fun H locs hP hS => ?_)
        obtain ⟨m137, em137⟩ : ∃ z : dM, z = d1 m4 461 (Int32.toNatClampNeg (v2)) (p2 + v136) := ⟨_, rfl⟩
        have h := d_let em137 h
        rw [← em137] at hP
        refine lv_aload_n S.1 S.2.1 dX12_tried_98 rfl (lv_at hl 3 rfl) ?_
        refine dgf12_27 S in12 hE hP k0 (S.2.2.2.2 (.fieldLink RX12 70 "DrillFieldModel" "triedY" "[I") (List.mem_of_getElem? (i := 3) rfl)) dX12_tried_99 ?_
        refine lv_iload S.1 S.2.1 dX12_tried_102 (lv_at hl 1 rfl) ?_
        refine lv_iload_n S.1 S.2.1 dX12_tried_104 rfl (lv_at hl 4 rfl) ?_
        refine lv_if_ne (tgt := 129) S.1 S.2.1 dX12_tried_105 (by decide) (fun cq => ?_) (fun cq => ?_)
        · have h := d_f cq h
          refine lv_iload_n S.1 S.2.1 dX12_tried_129 rfl (lv_at hl 4 rfl) ?_
          refine lv_iconst (v := 1) S.1 S.2.1 dX12_tried_130 (by decide) ?_
          refine lv_icmp_ne (tgt := 147) S.1 S.2.1 dX12_tried_131 (by decide) (fun cq => ?_) (fun cq => ?_)
          · have h := d_f cq h
            refine lv_iload_n S.1 S.2.1 dX12_tried_147 rfl (lv_at hl 6 rfl) ?_
            refine lv_iload S.1 S.2.1 dX12_tried_148 (lv_at hl 7 rfl) ?_
            refine lv_iload S.1 S.2.1 dX12_tried_150 (lv_at hl 0 rfl) ?_
            refine lv_imul S.1 S.2.1 dX12_tried_152 ?_
            refine lv_iadd S.1 S.2.1 dX12_tried_153 ?_
            obtain ⟨hi, h⟩ := d_g h
            refine d_iast S hE hP hS dk_462 hi dX12_tried_154 (fun H locs hP hS => ?_)
            obtain ⟨m138, em138⟩ : ∃ z : dM, z = d1 m137 462 (Int32.toNatClampNeg (v2)) (p3 + (p4 * v80)) := ⟨_, rfl⟩
            have h := d_let em138 h
            rw [← em138] at hP
            refine lv_iload S.1 S.2.1 dX12_tried_155 (lv_at hl 2 rfl) ?_
            refine lv_aload_n S.1 S.2.1 dX12_tried_157 rfl (lv_at hl 3 rfl) ?_
            refine dgf12_26 S in12 hE hP k0 (S.2.2.2.2 (.fieldLink RX12 67 "DrillFieldModel" "triedX" "[I") (List.mem_of_getElem? (i := 2) rfl)) dX12_tried_158 ?_
            refine lv_iload S.1 S.2.1 dX12_tried_161 (lv_at hl 1 rfl) ?_
            obtain ⟨hi, h⟩ := d_g h
            refine d_iald S hE hP dk_461 hi dX12_tried_163 ?_
            refine lv_aload_n S.1 S.2.1 dX12_tried_164 rfl (lv_at hl 3 rfl) ?_
            refine dgf12_27 S in12 hE hP k0 (S.2.2.2.2 (.fieldLink RX12 70 "DrillFieldModel" "triedY" "[I") (List.mem_of_getElem? (i := 3) rfl)) dX12_tried_165 ?_
            refine lv_iload S.1 S.2.1 dX12_tried_168 (lv_at hl 1 rfl) ?_
            obtain ⟨hi, h⟩ := d_g h
            refine d_iald S hE hP dk_462 hi dX12_tried_170 ?_
            obtain ⟨v140, hc139, h⟩ := d_b h
            refine dri (va_runS (As := [.int (m138.1 461 (Int32.toNatClampNeg (v2))), .int (m138.1 462 (Int32.toNatClampNeg (v2)))]) (rest := [.int v3]) S (kX12_isOnField l g hc139) (va_cwS 2 S.2.2.2.2 gX12_tried_X12_isOnField rfl rfl rfl ynX12_isOnField ⟨Nat.le_of_ble_eq_true rfl, Nat.le_of_ble_eq_true rfl⟩) (dpS hE hP hS) rfl rfl hl.1 rfl (lv_room (Nat.le_of_ble_eq_true rfl)) dX12_tried_171 ⟨Nat.le_of_ble_eq_true rfl, Nat.le_of_ble_eq_true rfl⟩) hS (fun H locs hP hS => ?_)
            refine lv_iand S.1 S.2.1 dX12_tried_174 ?_
            refine lv_topi (fun v141 ev141 => ?_)
            have h := d_let ev141 h
            refine lv_istore (lv' := [(6, .int v141), (8, .int v80), (7, .int v2), (0, .ref (dad g p0)), (1, .int p1), (2, .int p2), (3, .int p3), (4, .int p4), (5, .int p5)]) S.1 S.2.1 dX12_tried_175 hl (by decide) rfl (fun ls hl => ?_)
            obtain ⟨v142, ev142⟩ : ∃ z : Int32, z = v2 + 1 := ⟨_, rfl⟩
            have h := d_let ev142 h
            refine lv_iinc (v := v142) (lv' := [(7, .int v142), (6, .int v141), (8, .int v80), (0, .ref (dad g p0)), (1, .int p1), (2, .int p2), (3, .int p3), (4, .int p4), (5, .int p5)]) S.1 S.2.1 dX12_tried_177 hl (k := 2) rfl (by rw [ev142]; rfl) (by decide) rfl (fun ls hl => ?_)
            refine lv_goto (tgt := 6) S.1 S.2.1 dX12_tried_180 (by decide) ?_
            obtain rfl := Option.some.inj h
            exact hCL1 _ rfl H locs ls hP hS (lv_sub hl [0, 1, 3, 4, 5, 6, 7, 8] rfl)
          · have h := d_t cq h
            refine lv_iload_n S.1 S.2.1 dX12_tried_134 rfl (lv_at hl 6 rfl) ?_
            refine lv_iload S.1 S.2.1 dX12_tried_135 (lv_at hl 8 rfl) ?_
            refine lv_iload S.1 S.2.1 dX12_tried_137 (lv_at hl 1 rfl) ?_
            refine lv_iload S.1 S.2.1 dX12_tried_139 (lv_at hl 7 rfl) ?_
            obtain ⟨hz, h⟩ := d_g h
            refine lv_idiv S.1 S.2.1 dX12_tried_141 (of_decide_eq_true hz) ?_
            refine lv_imul S.1 S.2.1 dX12_tried_142 ?_
            refine lv_iadd S.1 S.2.1 dX12_tried_143 ?_
            refine lv_goto (tgt := 154) S.1 S.2.1 dX12_tried_144 (by decide) ?_
            obtain ⟨hi, h⟩ := d_g h
            refine d_iast S hE hP hS dk_462 hi dX12_tried_154 (fun H locs hP hS => ?_)
            obtain ⟨m143, em143⟩ : ∃ z : dM, z = d1 m137 462 (Int32.toNatClampNeg (v2)) (p3 + (p5 * (v2 / p4))) := ⟨_, rfl⟩
            have h := d_let em143 h
            rw [← em143] at hP
            refine lv_iload S.1 S.2.1 dX12_tried_155 (lv_at hl 2 rfl) ?_
            refine lv_aload_n S.1 S.2.1 dX12_tried_157 rfl (lv_at hl 3 rfl) ?_
            refine dgf12_26 S in12 hE hP k0 (S.2.2.2.2 (.fieldLink RX12 67 "DrillFieldModel" "triedX" "[I") (List.mem_of_getElem? (i := 2) rfl)) dX12_tried_158 ?_
            refine lv_iload S.1 S.2.1 dX12_tried_161 (lv_at hl 1 rfl) ?_
            obtain ⟨hi, h⟩ := d_g h
            refine d_iald S hE hP dk_461 hi dX12_tried_163 ?_
            refine lv_aload_n S.1 S.2.1 dX12_tried_164 rfl (lv_at hl 3 rfl) ?_
            refine dgf12_27 S in12 hE hP k0 (S.2.2.2.2 (.fieldLink RX12 70 "DrillFieldModel" "triedY" "[I") (List.mem_of_getElem? (i := 3) rfl)) dX12_tried_165 ?_
            refine lv_iload S.1 S.2.1 dX12_tried_168 (lv_at hl 1 rfl) ?_
            obtain ⟨hi, h⟩ := d_g h
            refine d_iald S hE hP dk_462 hi dX12_tried_170 ?_
            obtain ⟨v145, hc144, h⟩ := d_b h
            refine dri (va_runS (As := [.int (m143.1 461 (Int32.toNatClampNeg (v2))), .int (m143.1 462 (Int32.toNatClampNeg (v2)))]) (rest := [.int v3]) S (kX12_isOnField l g hc144) (va_cwS 2 S.2.2.2.2 gX12_tried_X12_isOnField rfl rfl rfl ynX12_isOnField ⟨Nat.le_of_ble_eq_true rfl, Nat.le_of_ble_eq_true rfl⟩) (dpS hE hP hS) rfl rfl hl.1 rfl (lv_room (Nat.le_of_ble_eq_true rfl)) dX12_tried_171 ⟨Nat.le_of_ble_eq_true rfl, Nat.le_of_ble_eq_true rfl⟩) hS (fun H locs hP hS => ?_)
            refine lv_iand S.1 S.2.1 dX12_tried_174 ?_
            refine lv_topi (fun v146 ev146 => ?_)
            have h := d_let ev146 h
            refine lv_istore (lv' := [(6, .int v146), (8, .int v80), (7, .int v2), (0, .ref (dad g p0)), (1, .int p1), (2, .int p2), (3, .int p3), (4, .int p4), (5, .int p5)]) S.1 S.2.1 dX12_tried_175 hl (by decide) rfl (fun ls hl => ?_)
            obtain ⟨v147, ev147⟩ : ∃ z : Int32, z = v2 + 1 := ⟨_, rfl⟩
            have h := d_let ev147 h
            refine lv_iinc (v := v147) (lv' := [(7, .int v147), (6, .int v146), (8, .int v80), (0, .ref (dad g p0)), (1, .int p1), (2, .int p2), (3, .int p3), (4, .int p4), (5, .int p5)]) S.1 S.2.1 dX12_tried_177 hl (k := 2) rfl (by rw [ev147]; rfl) (by decide) rfl (fun ls hl => ?_)
            refine lv_goto (tgt := 6) S.1 S.2.1 dX12_tried_180 (by decide) ?_
            obtain rfl := Option.some.inj h
            exact hCL1 _ rfl H locs ls hP hS (lv_sub hl [0, 1, 3, 4, 5, 6, 7, 8] rfl)
        · have h := d_t cq h
          refine lv_iload_n S.1 S.2.1 dX12_tried_108 rfl (lv_at hl 6 rfl) ?_
          refine lv_iload S.1 S.2.1 dX12_tried_109 (lv_at hl 1 rfl) ?_
          refine lv_iload S.1 S.2.1 dX12_tried_111 (lv_at hl 8 rfl) ?_
          refine lv_iload_n S.1 S.2.1 dX12_tried_113 rfl (lv_at hl 6 rfl) ?_
          refine lv_isub S.1 S.2.1 dX12_tried_114 ?_
          refine lv_imul S.1 S.2.1 dX12_tried_115 ?_
          refine lv_aload_n S.1 S.2.1 dX12_tried_116 rfl (lv_at hl 3 rfl) ?_
          refine dgf12_0 S in12 hE hP k0 (S.2.2.2.2 (.fieldLink RX12 7 "DrillFieldModel" "dots" "I") (List.mem_of_getElem? (i := 1) rfl)) dX12_tried_117 ?_
          refine lv_iconst (v := 1) S.1 S.2.1 dX12_tried_120 (by decide) ?_
          refine lv_isub S.1 S.2.1 dX12_tried_121 ?_
          obtain ⟨v149, hc148, h⟩ := d_b h
          refine dri (va_runS (As := [.int (v2 * (p5 - p3)), .int ((m137.1 p0 0) - 1)]) (rest := [.int p3, .int v2, .ref (dad g 462)]) S (kX12_down l g hc148) (va_cwS 2 S.2.2.2.2 gX12_tried_X12_down rfl rfl rfl ynX12_down ⟨Nat.le_of_ble_eq_true rfl, Nat.le_of_ble_eq_true rfl⟩) (dpS hE hP hS) rfl rfl hl.1 rfl (lv_room (Nat.le_of_ble_eq_true rfl)) dX12_tried_122 ⟨Nat.le_of_ble_eq_true rfl, Nat.le_of_ble_eq_true rfl⟩) hS (fun H locs hP hS => ?_)
          refine lv_iadd S.1 S.2.1 dX12_tried_125 ?_
          refine lv_goto (tgt := 154) S.1 S.2.1 dX12_tried_126 (by decide) ?_
          obtain ⟨hi, h⟩ := d_g h
          refine d_iast S hE hP hS dk_462 hi dX12_tried_154 (fun H locs hP hS => ?_)
          obtain ⟨m150, em150⟩ : ∃ z : dM, z = d1 m137 462 (Int32.toNatClampNeg (v2)) (p3 + v149) := ⟨_, rfl⟩
          have h := d_let em150 h
          rw [← em150] at hP
          refine lv_iload S.1 S.2.1 dX12_tried_155 (lv_at hl 2 rfl) ?_
          refine lv_aload_n S.1 S.2.1 dX12_tried_157 rfl (lv_at hl 3 rfl) ?_
          refine dgf12_26 S in12 hE hP k0 (S.2.2.2.2 (.fieldLink RX12 67 "DrillFieldModel" "triedX" "[I") (List.mem_of_getElem? (i := 2) rfl)) dX12_tried_158 ?_
          refine lv_iload S.1 S.2.1 dX12_tried_161 (lv_at hl 1 rfl) ?_
          obtain ⟨hi, h⟩ := d_g h
          refine d_iald S hE hP dk_461 hi dX12_tried_163 ?_
          refine lv_aload_n S.1 S.2.1 dX12_tried_164 rfl (lv_at hl 3 rfl) ?_
          refine dgf12_27 S in12 hE hP k0 (S.2.2.2.2 (.fieldLink RX12 70 "DrillFieldModel" "triedY" "[I") (List.mem_of_getElem? (i := 3) rfl)) dX12_tried_165 ?_
          refine lv_iload S.1 S.2.1 dX12_tried_168 (lv_at hl 1 rfl) ?_
          obtain ⟨hi, h⟩ := d_g h
          refine d_iald S hE hP dk_462 hi dX12_tried_170 ?_
          obtain ⟨v152, hc151, h⟩ := d_b h
          refine dri (va_runS (As := [.int (m150.1 461 (Int32.toNatClampNeg (v2))), .int (m150.1 462 (Int32.toNatClampNeg (v2)))]) (rest := [.int v3]) S (kX12_isOnField l g hc151) (va_cwS 2 S.2.2.2.2 gX12_tried_X12_isOnField rfl rfl rfl ynX12_isOnField ⟨Nat.le_of_ble_eq_true rfl, Nat.le_of_ble_eq_true rfl⟩) (dpS hE hP hS) rfl rfl hl.1 rfl (lv_room (Nat.le_of_ble_eq_true rfl)) dX12_tried_171 ⟨Nat.le_of_ble_eq_true rfl, Nat.le_of_ble_eq_true rfl⟩) hS (fun H locs hP hS => ?_)
          refine lv_iand S.1 S.2.1 dX12_tried_174 ?_
          refine lv_topi (fun v153 ev153 => ?_)
          have h := d_let ev153 h
          refine lv_istore (lv' := [(6, .int v153), (8, .int v80), (7, .int v2), (0, .ref (dad g p0)), (1, .int p1), (2, .int p2), (3, .int p3), (4, .int p4), (5, .int p5)]) S.1 S.2.1 dX12_tried_175 hl (by decide) rfl (fun ls hl => ?_)
          obtain ⟨v154, ev154⟩ : ∃ z : Int32, z = v2 + 1 := ⟨_, rfl⟩
          have h := d_let ev154 h
          refine lv_iinc (v := v154) (lv' := [(7, .int v154), (6, .int v153), (8, .int v80), (0, .ref (dad g p0)), (1, .int p1), (2, .int p2), (3, .int p3), (4, .int p4), (5, .int p5)]) S.1 S.2.1 dX12_tried_177 hl (k := 2) rfl (by rw [ev154]; rfl) (by decide) rfl (fun ls hl => ?_)
          refine lv_goto (tgt := 6) S.1 S.2.1 dX12_tried_180 (by decide) ?_
          obtain rfl := Option.some.inj h
          exact hCL1 _ rfl H locs ls hP hS (lv_sub hl [0, 1, 3, 4, 5, 6, 7, 8] rfl)
  · obtain ⟨v155, m156⟩ := qL1
    have h := d_p2 h
    intro H locs ls hP hS hl
    have hP : va_P g.1 vwCl (dws g m156) H := hP
    have hl : lv_has ls 9 [(0, .ref (dad g p0)), (6, .int v155)] := hl
    refine lv_aload_n S.1 S.2.1 dX12_tried_183 rfl (lv_at hl 0 rfl) ?_
    refine lv_iconst (v := 1) S.1 S.2.1 dX12_tried_184 (by decide) ?_
    refine lv_iload S.1 S.2.1 dX12_tried_185 (lv_at hl 1 rfl) ?_
    obtain ⟨⟨v159, m158⟩, hc157, h⟩ := d_b h
    have h := d_p2 h
    refine dri (va_runV (As := [.int 1, .int v155]) (rest := []) S (kX12_adds l g hc157) (cwV 2 S.2.2.2.2 gX12_tried_X12_adds rfl rfl rfl ynX12_adds ⟨Nat.le_of_ble_eq_true rfl, Nat.le_of_ble_eq_true rfl⟩) (dpV hE hP hS (ci := 12) rfl (dat13 k0)) rfl rfl hl.1 rfl (lv_room (Nat.le_of_ble_eq_true rfl)) dX12_tried_187 ⟨Nat.le_of_ble_eq_true rfl, Nat.le_of_ble_eq_true rfl⟩) hS (fun H locs hP hS => ?_)
    refine lv_istore (lv' := [(7, .int v159), (0, .ref (dad g p0)), (6, .int v155)]) S.1 S.2.1 dX12_tried_190 hl (by decide) rfl (fun ls hl => ?_)
    refine lv_iconst (v := 0) S.1 S.2.1 dX12_tried_192 (by decide) ?_
    refine lv_istore (lv' := [(8, .int 0), (7, .int v159), (0, .ref (dad g p0)), (6, .int v155)]) S.1 S.2.1 dX12_tried_193 hl (by decide) rfl (fun ls hl => ?_)
    obtain ⟨qL160, hqL160, h⟩ := d_b h
    refine d_lp (Hd := fun q => match q with | (v161, m162) => ∀ (H : Heap) (locs : List Loc) (ls : Array Slot), va_P g.1 vwCl (dws g m162) H → va_S (dA g) s.heap H locs → lv_has ls 9 [(8, .int v161), (7, .int v159), (0, .ref (dad g p0))] → W p l e (headSpec wsX12_tried (dRm 2 43)).room s mth (([.ref (dad g p0), .int p1, .int p2, .int p3, .int p4, .int p5] : List Value).toArray) below meth c H locs 0 0 (MQ below (dQI g r0 m0) (([.ref (dad g p0), .int p1, .int p2, .int p3, .int p4, .int p5] : List Value).toArray) s 0 0 (dA g)) (F0 mth 195 ls [])) (K := fun q => (fun (m169 : _) => ∀ (H : Heap) (locs : List Loc) (ls : Array Slot), va_P g.1 vwCl (dws g m169) H → va_S (dA g) s.heap H locs → lv_has ls 9 [(7, .int v159)] → W p l e (headSpec wsX12_tried (dRm 2 43)).room s mth (([.ref (dad g p0), .int p1, .int p2, .int p3, .int p4, .int p5] : List Value).toArray) below meth c H locs 0 0 (MQ below (dQI g r0 m0) (([.ref (dad g p0), .int p1, .int p2, .int p3, .int p4, .int p5] : List Value).toArray) s 0 0 (dA g)) (F0 mth 257 ls [])) q) ?_ dFl _ qL160 hqL160 ?_ H locs ls hP hS (lv_sub hl [0, 1, 2] rfl)
    · intro q o h hCL160 hEL160
      obtain ⟨v161, m162⟩ := q
      have h : fX12_tried_l195 p0 v159 v161 m162 = some o := h
      intro H locs ls hP hS hl
      have hP : va_P g.1 vwCl (dws g m162) H := hP
      have hl : lv_has ls 9 [(8, .int v161), (7, .int v159), (0, .ref (dad g p0))] := hl
      unfold fX12_tried_l195 at h
      refine lv_iload S.1 S.2.1 dX12_tried_195 (lv_at hl 0 rfl) ?_
      refine lv_aload_n S.1 S.2.1 dX12_tried_197 rfl (lv_at hl 2 rfl) ?_
      refine dgf12_0 S in12 hE hP k0 (S.2.2.2.2 (.fieldLink RX12 7 "DrillFieldModel" "dots" "I") (List.mem_of_getElem? (i := 1) rfl)) dX12_tried_198 ?_
      refine lv_icmp_ge (tgt := 257) S.1 S.2.1 dX12_tried_201 (by decide) (fun cq => ?_) (fun cq => ?_)
      · have h := d_t cq h
        obtain rfl := Option.some.inj h
        exact hEL160 _ rfl H locs ls hP hS (lv_sub hl [1] rfl)
      · have h := d_f cq h
        refine lv_aload_n S.1 S.2.1 dX12_tried_204 rfl (lv_at hl 2 rfl) ?_
        refine dgf12_25 S in12 hE hP k0 (S.2.2.2.2 (.fieldLink RX12 76 "DrillFieldModel" "thrown" "I") (List.mem_of_getElem? (i := 4) rfl)) dX12_tried_205 ?_
        refine lv_if_ne (tgt := 257) S.1 S.2.1 dX12_tried_208 (by decide) (fun cq => ?_) (fun cq => ?_)
        · have h := d_f cq h
          obtain rfl := Option.some.inj h
          exact hEL160 _ rfl H locs ls hP hS (lv_sub hl [1] rfl)
        · have h := d_t cq h
          refine lv_aload_n S.1 S.2.1 dX12_tried_211 rfl (lv_at hl 2 rfl) ?_
          refine dgf12_6 S in12 hE hP k0 (S.2.2.2.2 (.fieldLink RX12 27 "DrillFieldModel" "setX" "[I") (List.mem_of_getElem? (i := 5) rfl)) dX12_tried_212 ?_
          refine lv_bipush (v := 10) S.1 S.2.1 dX12_tried_215 (by decide) ?_
          refine lv_iload S.1 S.2.1 dX12_tried_217 (lv_at hl 1 rfl) ?_
          refine lv_imul S.1 S.2.1 dX12_tried_219 ?_
          refine lv_iload S.1 S.2.1 dX12_tried_220 (lv_at hl 0 rfl) ?_
          refine lv_iadd S.1 S.2.1 dX12_tried_222 ?_
          refine lv_aload_n S.1 S.2.1 dX12_tried_223 rfl (lv_at hl 2 rfl) ?_
          refine dgf12_26 S in12 hE hP k0 (S.2.2.2.2 (.fieldLink RX12 67 "DrillFieldModel" "triedX" "[I") (List.mem_of_getElem? (i := 2) rfl)) dX12_tried_224 ?_
          refine lv_iload S.1 S.2.1 dX12_tried_227 (lv_at hl 0 rfl) ?_
          obtain ⟨hi, h⟩ := d_g h
          refine d_iald S hE hP dk_461 hi dX12_tried_229 ?_
          obtain ⟨hi, h⟩ := d_g h
          refine d_iast S hE hP hS dk_449 hi dX12_tried_230 (fun H locs hP hS => ?_)
          obtain ⟨m166, em166⟩ : ∃ z : dM, z = d1 m162 449 (Int32.toNatClampNeg ((10 * v159) + v161)) (m162.1 461 (Int32.toNatClampNeg (v161))) := ⟨_, rfl⟩
          have h := d_let em166 h
          rw [← em166] at hP
          refine lv_aload_n S.1 S.2.1 dX12_tried_231 rfl (lv_at hl 2 rfl) ?_
          refine dgf12_7 S in12 hE hP k0 (S.2.2.2.2 (.fieldLink RX12 30 "DrillFieldModel" "setY" "[I") (List.mem_of_getElem? (i := 6) rfl)) dX12_tried_232 ?_
          refine lv_bipush (v := 10) S.1 S.2.1 dX12_tried_235 (by decide) ?_
          refine lv_iload S.1 S.2.1 dX12_tried_237 (lv_at hl 1 rfl) ?_
          refine lv_imul S.1 S.2.1 dX12_tried_239 ?_
          refine lv_iload S.1 S.2.1 dX12_tried_240 (lv_at hl 0 rfl) ?_
          refine lv_iadd S.1 S.2.1 dX12_tried_242 ?_
          refine lv_aload_n S.1 S.2.1 dX12_tried_243 rfl (lv_at hl 2 rfl) ?_
          refine dgf12_27 S in12 hE hP k0 (S.2.2.2.2 (.fieldLink RX12 70 "DrillFieldModel" "triedY" "[I") (List.mem_of_getElem? (i := 3) rfl)) dX12_tried_244 ?_
          refine lv_iload S.1 S.2.1 dX12_tried_247 (lv_at hl 0 rfl) ?_
          obtain ⟨hi, h⟩ := d_g h
          refine d_iald S hE hP dk_462 hi dX12_tried_249 ?_
          obtain ⟨hi, h⟩ := d_g h
          refine d_iast S hE hP hS dk_450 hi dX12_tried_250 (fun H locs hP hS => ?_)
          obtain ⟨m167, em167⟩ : ∃ z : dM, z = d1 m166 450 (Int32.toNatClampNeg ((10 * v159) + v161)) (m166.1 462 (Int32.toNatClampNeg (v161))) := ⟨_, rfl⟩
          have h := d_let em167 h
          rw [← em167] at hP
          obtain ⟨v168, ev168⟩ : ∃ z : Int32, z = v161 + 1 := ⟨_, rfl⟩
          have h := d_let ev168 h
          refine lv_iinc (v := v168) (lv' := [(8, .int v168), (7, .int v159), (0, .ref (dad g p0))]) S.1 S.2.1 dX12_tried_251 hl (k := 0) rfl (by rw [ev168]; rfl) (by decide) rfl (fun ls hl => ?_)
          refine lv_goto (tgt := 195) S.1 S.2.1 dX12_tried_254 (by decide) ?_
          obtain rfl := Option.some.inj h
          exact hCL160 _ rfl H locs ls hP hS (lv_sub hl [0, 1, 2] rfl)
    · obtain ⟨m169, rfl⟩ : ∃ z, z = qL160 := ⟨_, rfl⟩
      have h := d_p1 h
      intro H locs ls hP hS hl
      have hP : va_P g.1 vwCl (dws g m169) H := hP
      have hl : lv_has ls 9 [(7, .int v159)] := hl
      refine lv_iload S.1 S.2.1 dX12_tried_257 (lv_at hl 0 rfl) ?_
      obtain ⟨rfl, rfl⟩ := Prod.mk.inj (Option.some.inj h)
      exact dti S hr hlk hE hP hS rfl dX12_tried_259
set_option maxRecDepth 20000 in
theorem ggX12_block_X12_isOnField : GoodIn wsX12_block wsX12_isOnField := goodIn_r _ [4, 5, 6, 3, 7] (by decide +kernel) (by decide +kernel)
set_option maxRecDepth 20000 in
theorem gX12_block_X12_isOnField : GoodIn wsX12_block (va_wsS RX12 100 yX12_isOnField wsX12_isOnField) := goodIn_app (goodIn_of _ (by decide +kernel)) ggX12_block_X12_isOnField
set_option maxRecDepth 20000 in
theorem ggX12_block_X12_isIn : GoodIn wsX12_block wsX12_isIn := goodIn_r _ [7] (by decide +kernel) (by decide +kernel)
set_option maxRecDepth 20000 in
theorem gX12_block_X12_isIn : GoodIn wsX12_block (va_wsS RX12 79 yX12_isIn wsX12_isIn) := goodIn_app (goodIn_of _ (by decide +kernel)) ggX12_block_X12_isIn
set_option maxRecDepth 20000 in
theorem ggX12_block_X12_tried : GoodIn wsX12_block wsX12_tried := goodIn_r _ [11, 12, 13, 14, 15, 16, 17, 18, 19, 3, 20, 1, 2, 4, 5, 6, 7, 21, 22, 23, 24, 25, 26, 27, 28, 29, 30, 31, 32, 33, 34, 35, 36, 37, 38, 39, 40, 41, 42, 43, 44, 45, 46, 47, 48, 49, 50, 51, 52, 53] (by decide +kernel) (by decide +kernel)
set_option maxRecDepth 20000 in
theorem gX12_block_X12_tried : GoodIn wsX12_block (wsV RX12 108 RX12 yX12_tried wsX12_tried) := goodIn_app (goodIn_of _ (by decide +kernel)) ggX12_block_X12_tried
set_option maxRecDepth 20000 in
theorem ggX12_block_X12_adds : GoodIn wsX12_block wsX12_adds := goodIn_r _ [24, 25, 15, 26, 27, 28, 29, 30, 31, 32, 33, 34, 35, 36, 37, 38, 39, 40, 41, 42, 43, 44, 45, 46, 47, 48, 49, 50, 51, 52, 53] (by decide +kernel) (by decide +kernel)
set_option maxRecDepth 20000 in
theorem gX12_block_X12_adds : GoodIn wsX12_block (wsV RX12 104 RX12 yX12_adds wsX12_adds) := goodIn_app (goodIn_of _ (by decide +kernel)) ggX12_block_X12_adds
theorem dX12_block_0 : decode cX12_block 0 = .ok (.iload_n 1, 1) := by decide +kernel
theorem dX12_block_1 : decode cX12_block 1 = .ok (.iload_n 2, 1) := by decide +kernel
theorem dX12_block_2 : decode cX12_block 2 = .ok (.invokestatic 100, 3) := by decide +kernel
theorem dX12_block_5 : decode cX12_block 5 = .ok (.ifCond .eq 38, 3) := by decide +kernel
theorem dX12_block_8 : decode cX12_block 8 = .ok (.iload_n 3, 1) := by decide +kernel
theorem dX12_block_9 : decode cX12_block 9 = .ok (.iconst 1, 1) := by decide +kernel
theorem dX12_block_10 : decode cX12_block 10 = .ok (.bipush 10, 2) := by decide +kernel
theorem dX12_block_12 : decode cX12_block 12 = .ok (.invokestatic 79, 3) := by decide +kernel
theorem dX12_block_15 : decode cX12_block 15 = .ok (.ifCond .eq 28, 3) := by decide +kernel
theorem dX12_block_18 : decode cX12_block 18 = .ok (.iload 4, 2) := by decide +kernel
theorem dX12_block_20 : decode cX12_block 20 = .ok (.iconst 1, 1) := by decide +kernel
theorem dX12_block_21 : decode cX12_block 21 = .ok (.sipush 400, 3) := by decide +kernel
theorem dX12_block_24 : decode cX12_block 24 = .ok (.invokestatic 79, 3) := by decide +kernel
theorem dX12_block_27 : decode cX12_block 27 = .ok (.ifCond .eq 16, 3) := by decide +kernel
theorem dX12_block_30 : decode cX12_block 30 = .ok (.aload_n 0, 1) := by decide +kernel
theorem dX12_block_31 : decode cX12_block 31 = .ok (.iconst 1, 1) := by decide +kernel
theorem dX12_block_32 : decode cX12_block 32 = .ok (.iload_n 1, 1) := by decide +kernel
theorem dX12_block_33 : decode cX12_block 33 = .ok (.iload_n 2, 1) := by decide +kernel
theorem dX12_block_34 : decode cX12_block 34 = .ok (.iload_n 3, 1) := by decide +kernel
theorem dX12_block_35 : decode cX12_block 35 = .ok (.iload 4, 2) := by decide +kernel
theorem dX12_block_37 : decode cX12_block 37 = .ok (.invokevirtual 108, 3) := by decide +kernel
theorem dX12_block_40 : decode cX12_block 40 = .ok (.goto 9, 3) := by decide +kernel
theorem dX12_block_43 : decode cX12_block 43 = .ok (.aload_n 0, 1) := by decide +kernel
theorem dX12_block_44 : decode cX12_block 44 = .ok (.iconst 0, 1) := by decide +kernel
theorem dX12_block_45 : decode cX12_block 45 = .ok (.iconst 0, 1) := by decide +kernel
theorem dX12_block_46 : decode cX12_block 46 = .ok (.invokevirtual 104, 3) := by decide +kernel
theorem dX12_block_49 : decode cX12_block 49 = .ok (.ireturn, 1) := by decide +kernel
def fX12_block (m : dM) (p0 : Nat) (p1 : Int32) (p2 : Int32) (p3 : Int32) (p4 : Int32) : Option (Int32 × dM) := dg (dkg p0 13) ((fX12_isOnField m p1 p2).bind (fun v2 => if v2 = 0 then (fX12_adds m p0 0 0).bind (fun q => dP2 q (fun v5 m4 => some (v5, m4))) else (fX12_isIn m p3 1 10).bind (fun v7 => if v7 = 0 then (fX12_adds m p0 0 0).bind (fun q => dP2 q (fun v10 m9 => some (v10, m9))) else (fX12_isIn m p4 1 400).bind (fun v12 => if v12 = 0 then (fX12_adds m p0 0 0).bind (fun q => dP2 q (fun v15 m14 => some (v15, m14))) else (fX12_tried m p0 1 p1 p2 p3 p4).bind (fun q => dP2 q (fun v18 m17 => some (v18, m17)))))))
set_option maxHeartbeats 4000000 in
set_option maxRecDepth 100000 in
theorem kX12_block (l : Launch) (g : dG) {m : dM} {p0 : Nat} {p1 : Int32} {p2 : Int32} {p3 : Int32} {p4 : Int32} {r0 : Int32} {m0 : dM} (h : fX12_block m p0 p1 p2 p3 p4 = some (r0, m0)) : dMet l g yX12_block wsX12_block (dRm 3 71) [.ref (dad g p0), .int p1, .int p2, .int p3, .int p4] m (dQI g r0 m0) := by
  refine dof (cc := cX12_block) (maxL := 5) (ret := (some .int)) _ (plainFor_of_name (by decide)) rfl (Nat.le_of_ble_eq_true rfl) ?_
  intro p e s mth below meth c S hr hlk hE H ls hP hS hl
  have S : CallFix p mth c cX12_block 5 s _ wsX12_block RX12 := S
  have hl : lv_has ls 5 [(0, .ref (dad g p0)), (1, .int p1), (2, .int p2), (3, .int p3), (4, .int p4)] := hl
  obtain ⟨locs, hlocs⟩ : ∃ z : List Loc, z = [] := ⟨_, rfl⟩
  rw [← hlocs] at hS ⊢
  unfold fX12_block at h
  obtain ⟨k0, h⟩ := d_g h
  have k0 := d_k k0
  refine lv_iload_n S.1 S.2.1 dX12_block_0 rfl (lv_at hl 1 rfl) ?_
  refine lv_iload_n S.1 S.2.1 dX12_block_1 rfl (lv_at hl 2 rfl) ?_
  obtain ⟨v2, hc1, h⟩ := d_b h
  refine dri (va_runS (As := [.int p1, .int p2]) (rest := []) S (kX12_isOnField l g hc1) (va_cwS 2 S.2.2.2.2 gX12_block_X12_isOnField rfl rfl rfl ynX12_isOnField ⟨Nat.le_of_ble_eq_true rfl, Nat.le_of_ble_eq_true rfl⟩) (dpS hE hP hS) rfl rfl hl.1 rfl (lv_room (Nat.le_of_ble_eq_true rfl)) dX12_block_2 ⟨Nat.le_of_ble_eq_true rfl, Nat.le_of_ble_eq_true rfl⟩) hS (fun H locs hP hS => ?_)
  refine lv_if_eq (tgt := 43) S.1 S.2.1 dX12_block_5 (by decide) (fun cq => ?_) (fun cq => ?_)
  · have h := d_t cq h
    refine lv_aload_n S.1 S.2.1 dX12_block_43 rfl (lv_at hl 0 rfl) ?_
    refine lv_iconst (v := 0) S.1 S.2.1 dX12_block_44 (by decide) ?_
    refine lv_iconst (v := 0) S.1 S.2.1 dX12_block_45 (by decide) ?_
    obtain ⟨⟨v5, m4⟩, hc3, h⟩ := d_b h
    have h := d_p2 h
    refine dri (va_runV (As := [.int 0, .int 0]) (rest := []) S (kX12_adds l g hc3) (cwV 2 S.2.2.2.2 gX12_block_X12_adds rfl rfl rfl ynX12_adds ⟨Nat.le_of_ble_eq_true rfl, Nat.le_of_ble_eq_true rfl⟩) (dpV hE hP hS (ci := 12) rfl (dat13 k0)) rfl rfl hl.1 rfl (lv_room (Nat.le_of_ble_eq_true rfl)) dX12_block_46 ⟨Nat.le_of_ble_eq_true rfl, Nat.le_of_ble_eq_true rfl⟩) hS (fun H locs hP hS => ?_)
    obtain ⟨rfl, rfl⟩ := Prod.mk.inj (Option.some.inj h)
    exact dti S hr hlk hE hP hS rfl dX12_block_49
  · have h := d_f cq h
    refine lv_iload_n S.1 S.2.1 dX12_block_8 rfl (lv_at hl 3 rfl) ?_
    refine lv_iconst (v := 1) S.1 S.2.1 dX12_block_9 (by decide) ?_
    refine lv_bipush (v := 10) S.1 S.2.1 dX12_block_10 (by decide) ?_
    obtain ⟨v7, hc6, h⟩ := d_b h
    refine dri (va_runS (As := [.int p3, .int 1, .int 10]) (rest := []) S (kX12_isIn l g hc6) (va_cwS 3 S.2.2.2.2 gX12_block_X12_isIn rfl rfl rfl ynX12_isIn ⟨Nat.le_of_ble_eq_true rfl, Nat.le_of_ble_eq_true rfl⟩) (dpS hE hP hS) rfl rfl hl.1 rfl (lv_room (Nat.le_of_ble_eq_true rfl)) dX12_block_12 ⟨Nat.le_of_ble_eq_true rfl, Nat.le_of_ble_eq_true rfl⟩) hS (fun H locs hP hS => ?_)
    refine lv_if_eq (tgt := 43) S.1 S.2.1 dX12_block_15 (by decide) (fun cq => ?_) (fun cq => ?_)
    · have h := d_t cq h
      refine lv_aload_n S.1 S.2.1 dX12_block_43 rfl (lv_at hl 0 rfl) ?_
      refine lv_iconst (v := 0) S.1 S.2.1 dX12_block_44 (by decide) ?_
      refine lv_iconst (v := 0) S.1 S.2.1 dX12_block_45 (by decide) ?_
      obtain ⟨⟨v10, m9⟩, hc8, h⟩ := d_b h
      have h := d_p2 h
      refine dri (va_runV (As := [.int 0, .int 0]) (rest := []) S (kX12_adds l g hc8) (cwV 2 S.2.2.2.2 gX12_block_X12_adds rfl rfl rfl ynX12_adds ⟨Nat.le_of_ble_eq_true rfl, Nat.le_of_ble_eq_true rfl⟩) (dpV hE hP hS (ci := 12) rfl (dat13 k0)) rfl rfl hl.1 rfl (lv_room (Nat.le_of_ble_eq_true rfl)) dX12_block_46 ⟨Nat.le_of_ble_eq_true rfl, Nat.le_of_ble_eq_true rfl⟩) hS (fun H locs hP hS => ?_)
      obtain ⟨rfl, rfl⟩ := Prod.mk.inj (Option.some.inj h)
      exact dti S hr hlk hE hP hS rfl dX12_block_49
    · have h := d_f cq h
      refine lv_iload S.1 S.2.1 dX12_block_18 (lv_at hl 4 rfl) ?_
      refine lv_iconst (v := 1) S.1 S.2.1 dX12_block_20 (by decide) ?_
      refine lv_sipush (v := 400) S.1 S.2.1 dX12_block_21 (by decide) ?_
      obtain ⟨v12, hc11, h⟩ := d_b h
      refine dri (va_runS (As := [.int p4, .int 1, .int 400]) (rest := []) S (kX12_isIn l g hc11) (va_cwS 3 S.2.2.2.2 gX12_block_X12_isIn rfl rfl rfl ynX12_isIn ⟨Nat.le_of_ble_eq_true rfl, Nat.le_of_ble_eq_true rfl⟩) (dpS hE hP hS) rfl rfl hl.1 rfl (lv_room (Nat.le_of_ble_eq_true rfl)) dX12_block_24 ⟨Nat.le_of_ble_eq_true rfl, Nat.le_of_ble_eq_true rfl⟩) hS (fun H locs hP hS => ?_)
      refine lv_if_eq (tgt := 43) S.1 S.2.1 dX12_block_27 (by decide) (fun cq => ?_) (fun cq => ?_)
      · have h := d_t cq h
        refine lv_aload_n S.1 S.2.1 dX12_block_43 rfl (lv_at hl 0 rfl) ?_
        refine lv_iconst (v := 0) S.1 S.2.1 dX12_block_44 (by decide) ?_
        refine lv_iconst (v := 0) S.1 S.2.1 dX12_block_45 (by decide) ?_
        obtain ⟨⟨v15, m14⟩, hc13, h⟩ := d_b h
        have h := d_p2 h
        refine dri (va_runV (As := [.int 0, .int 0]) (rest := []) S (kX12_adds l g hc13) (cwV 2 S.2.2.2.2 gX12_block_X12_adds rfl rfl rfl ynX12_adds ⟨Nat.le_of_ble_eq_true rfl, Nat.le_of_ble_eq_true rfl⟩) (dpV hE hP hS (ci := 12) rfl (dat13 k0)) rfl rfl hl.1 rfl (lv_room (Nat.le_of_ble_eq_true rfl)) dX12_block_46 ⟨Nat.le_of_ble_eq_true rfl, Nat.le_of_ble_eq_true rfl⟩) hS (fun H locs hP hS => ?_)
        obtain ⟨rfl, rfl⟩ := Prod.mk.inj (Option.some.inj h)
        exact dti S hr hlk hE hP hS rfl dX12_block_49
      · have h := d_f cq h
        refine lv_aload_n S.1 S.2.1 dX12_block_30 rfl (lv_at hl 0 rfl) ?_
        refine lv_iconst (v := 1) S.1 S.2.1 dX12_block_31 (by decide) ?_
        refine lv_iload_n S.1 S.2.1 dX12_block_32 rfl (lv_at hl 1 rfl) ?_
        refine lv_iload_n S.1 S.2.1 dX12_block_33 rfl (lv_at hl 2 rfl) ?_
        refine lv_iload_n S.1 S.2.1 dX12_block_34 rfl (lv_at hl 3 rfl) ?_
        refine lv_iload S.1 S.2.1 dX12_block_35 (lv_at hl 4 rfl) ?_
        obtain ⟨⟨v18, m17⟩, hc16, h⟩ := d_b h
        have h := d_p2 h
        refine dri (va_runV (As := [.int 1, .int p1, .int p2, .int p3, .int p4]) (rest := []) S (kX12_tried l g hc16) (cwV 5 S.2.2.2.2 gX12_block_X12_tried rfl rfl rfl ynX12_tried ⟨Nat.le_of_ble_eq_true rfl, Nat.le_of_ble_eq_true rfl⟩) (dpV hE hP hS (ci := 12) rfl (dat13 k0)) rfl rfl hl.1 rfl (lv_room (Nat.le_of_ble_eq_true rfl)) dX12_block_37 ⟨Nat.le_of_ble_eq_true rfl, Nat.le_of_ble_eq_true rfl⟩) hS (fun H locs hP hS => ?_)
        refine lv_goto (tgt := 49) S.1 S.2.1 dX12_block_40 (by decide) ?_
        obtain ⟨rfl, rfl⟩ := Prod.mk.inj (Option.some.inj h)
        exact dti S hr hlk hE hP hS rfl dX12_block_49
theorem dX12_marches_0 : decode cX12_marches 0 = .ok (.aload_n 0, 1) := by decide +kernel
theorem dX12_marches_1 : decode cX12_marches 1 = .ok (.getfield 17, 3) := by decide +kernel
theorem dX12_marches_4 : decode cX12_marches 4 = .ok (.iload_n 1, 1) := by decide +kernel
theorem dX12_marches_5 : decode cX12_marches 5 = .ok (.baload, 1) := by decide +kernel
theorem dX12_marches_6 : decode cX12_marches 6 = .ok (.ifCond .ne 7, 3) := by decide +kernel
theorem dX12_marches_9 : decode cX12_marches 9 = .ok (.iconst 1, 1) := by decide +kernel
theorem dX12_marches_10 : decode cX12_marches 10 = .ok (.goto 4, 3) := by decide +kernel
theorem dX12_marches_13 : decode cX12_marches 13 = .ok (.iconst 0, 1) := by decide +kernel
theorem dX12_marches_14 : decode cX12_marches 14 = .ok (.istore_n 2, 1) := by decide +kernel
theorem dX12_marches_15 : decode cX12_marches 15 = .ok (.iconst 0, 1) := by decide +kernel
theorem dX12_marches_16 : decode cX12_marches 16 = .ok (.istore_n 3, 1) := by decide +kernel
theorem dX12_marches_17 : decode cX12_marches 17 = .ok (.iload_n 3, 1) := by decide +kernel
theorem dX12_marches_18 : decode cX12_marches 18 = .ok (.iconst 3, 1) := by decide +kernel
theorem dX12_marches_19 : decode cX12_marches 19 = .ok (.if_icmp .ge 36, 3) := by decide +kernel
theorem dX12_marches_22 : decode cX12_marches 22 = .ok (.iload_n 2, 1) := by decide +kernel
theorem dX12_marches_23 : decode cX12_marches 23 = .ok (.aload_n 0, 1) := by decide +kernel
theorem dX12_marches_24 : decode cX12_marches 24 = .ok (.getfield 21, 3) := by decide +kernel
theorem dX12_marches_27 : decode cX12_marches 27 = .ok (.iload_n 3, 1) := by decide +kernel
theorem dX12_marches_28 : decode cX12_marches 28 = .ok (.iaload, 1) := by decide +kernel
theorem dX12_marches_29 : decode cX12_marches 29 = .ok (.iload_n 1, 1) := by decide +kernel
theorem dX12_marches_30 : decode cX12_marches 30 = .ok (.if_icmp .ne 16, 3) := by decide +kernel
theorem dX12_marches_33 : decode cX12_marches 33 = .ok (.aload_n 0, 1) := by decide +kernel
theorem dX12_marches_34 : decode cX12_marches 34 = .ok (.getfield 24, 3) := by decide +kernel
theorem dX12_marches_37 : decode cX12_marches 37 = .ok (.iload_n 3, 1) := by decide +kernel
theorem dX12_marches_38 : decode cX12_marches 38 = .ok (.baload, 1) := by decide +kernel
theorem dX12_marches_39 : decode cX12_marches 39 = .ok (.ifCond .ne 7, 3) := by decide +kernel
theorem dX12_marches_42 : decode cX12_marches 42 = .ok (.iconst 1, 1) := by decide +kernel
theorem dX12_marches_43 : decode cX12_marches 43 = .ok (.goto 4, 3) := by decide +kernel
theorem dX12_marches_46 : decode cX12_marches 46 = .ok (.iconst 0, 1) := by decide +kernel
theorem dX12_marches_47 : decode cX12_marches 47 = .ok (.ior, 1) := by decide +kernel
theorem dX12_marches_48 : decode cX12_marches 48 = .ok (.istore_n 2, 1) := by decide +kernel
theorem dX12_marches_49 : decode cX12_marches 49 = .ok (.iinc 3 1, 3) := by decide +kernel
theorem dX12_marches_52 : decode cX12_marches 52 = .ok (.goto (-35), 3) := by decide +kernel
theorem dX12_marches_55 : decode cX12_marches 55 = .ok (.iload_n 2, 1) := by decide +kernel
theorem dX12_marches_56 : decode cX12_marches 56 = .ok (.ireturn, 1) := by decide +kernel
def fX12_marches_l17 (m : dM) (p1 : Int32) (v2 : Int32) (v3 : Int32) : Option ((Int32 × Int32) ⊕ Int32) := if 3 ≤ v2 then some (.inr v3) else dg (dIx v2 (dL 447)) (if (m.1 447 (Int32.toNatClampNeg (v2))) = p1 then dg (dIx v2 (dL 448)) (if (m.1 448 (Int32.toNatClampNeg (v2))) = 0 then dlet (v3 ||| 1 : Int32) (fun v14 => dlet (v2 + 1 : Int32) (fun v15 => some (.inl (v15, v14)))) else dlet (v3 ||| 0 : Int32) (fun v12 => dlet (v2 + 1 : Int32) (fun v13 => some (.inl (v13, v12))))) else dlet (v3 ||| 0 : Int32) (fun v10 => dlet (v2 + 1 : Int32) (fun v11 => some (.inl (v11, v10)))))
def fX12_marches_l17_2 (m : dM) (p1 : Int32) (v18 : Int32) (v19 : Int32) : Option ((Int32 × Int32) ⊕ Int32) := if 3 ≤ v18 then some (.inr v19) else dg (dIx v18 (dL 447)) (if (m.1 447 (Int32.toNatClampNeg (v18))) = p1 then dg (dIx v18 (dL 448)) (if (m.1 448 (Int32.toNatClampNeg (v18))) = 0 then dlet (v19 ||| 1 : Int32) (fun v30 => dlet (v18 + 1 : Int32) (fun v31 => some (.inl (v31, v30)))) else dlet (v19 ||| 0 : Int32) (fun v28 => dlet (v18 + 1 : Int32) (fun v29 => some (.inl (v29, v28))))) else dlet (v19 ||| 0 : Int32) (fun v26 => dlet (v18 + 1 : Int32) (fun v27 => some (.inl (v27, v26)))))
def fX12_marches (m : dM) (p0 : Nat) (p1 : Int32) : Option Int32 := dg (dkg p0 13) (dg (dIx p1 (dL 446)) (if (m.1 446 (Int32.toNatClampNeg (p1))) = 0 then (dlp (fun q => dP2 q (fun v18 v19 => fX12_marches_l17_2 m p1 v18 v19)) dFl (0, 1)).bind (fun q => dP1 q (fun v32 => dg (dB v32) (some v32))) else (dlp (fun q => dP2 q (fun v2 v3 => fX12_marches_l17 m p1 v2 v3)) dFl (0, 0)).bind (fun q => dP1 q (fun v16 => dg (dB v16) (some v16)))))
set_option maxHeartbeats 4000000 in
set_option maxRecDepth 100000 in
theorem kX12_marches (l : Launch) (g : dG) {m : dM} {p0 : Nat} {p1 : Int32} {r0 : Int32} (h : fX12_marches m p0 p1 = some r0) : dMet l g yX12_marches wsX12_marches (dRm 0 0) [.ref (dad g p0), .int p1] m (dQI g r0 m) := by
  refine dof (cc := cX12_marches) (maxL := 4) (ret := (some .boolean)) _ (plainFor_of_name (by decide)) rfl (Nat.le_of_ble_eq_true rfl) ?_
  intro p e s mth below meth c S hr hlk hE H ls hP hS hl
  have S : CallFix p mth c cX12_marches 4 s _ wsX12_marches RX12 := S
  have hl : lv_has ls 4 [(0, .ref (dad g p0)), (1, .int p1)] := hl
  obtain ⟨locs, hlocs⟩ : ∃ z : List Loc, z = [] := ⟨_, rfl⟩
  rw [← hlocs] at hS ⊢
  have in12 : ∀ w ∈ wsX120, w ∈ wsX12_marches := by decide +kernel
  unfold fX12_marches at h
  obtain ⟨k0, h⟩ := d_g h
  have k0 := d_k k0
  refine lv_aload_n S.1 S.2.1 dX12_marches_0 rfl (lv_at hl 0 rfl) ?_
  refine dgf12_2 S in12 hE hP k0 (S.2.2.2.2 (.fieldLink RX12 17 "DrillFieldModel" "ill" "[Z") (List.mem_of_getElem? (i := 1) rfl)) dX12_marches_1 ?_
  refine lv_iload_n S.1 S.2.1 dX12_marches_4 rfl (lv_at hl 1 rfl) ?_
  obtain ⟨hi, h⟩ := d_g h
  refine d_zald S hE hP dk_446 hi dX12_marches_5 ?_
  refine lv_if_ne (tgt := 13) S.1 S.2.1 dX12_marches_6 (by decide) (fun cq => ?_) (fun cq => ?_)
  · have h := d_f cq h
    refine lv_iconst (v := 0) S.1 S.2.1 dX12_marches_13 (by decide) ?_
    refine lv_istore_n (lv' := [(2, .int 0), (0, .ref (dad g p0)), (1, .int p1)]) S.1 S.2.1 dX12_marches_14 rfl hl (by decide) rfl (fun ls hl => ?_)
    refine lv_iconst (v := 0) S.1 S.2.1 dX12_marches_15 (by decide) ?_
    refine lv_istore_n (lv' := [(3, .int 0), (2, .int 0), (0, .ref (dad g p0)), (1, .int p1)]) S.1 S.2.1 dX12_marches_16 rfl hl (by decide) rfl (fun ls hl => ?_)
    obtain ⟨qL1, hqL1, h⟩ := d_b h
    refine d_lp (Hd := fun q => match q with | (v2, v3) => ∀ (H : Heap) (locs : List Loc) (ls : Array Slot), va_P g.1 vwCl (dws g m) H → va_S (dA g) s.heap H locs → lv_has ls 4 [(3, .int v2), (2, .int v3), (0, .ref (dad g p0)), (1, .int p1)] → W p l e (headSpec wsX12_marches (dRm 0 0)).room s mth (([.ref (dad g p0), .int p1] : List Value).toArray) below meth c H locs 0 0 (MQ below (dQI g r0 m) (([.ref (dad g p0), .int p1] : List Value).toArray) s 0 0 (dA g)) (F0 mth 17 ls [])) (K := fun q => (fun (v16 : _) => ∀ (H : Heap) (locs : List Loc) (ls : Array Slot), va_P g.1 vwCl (dws g m) H → va_S (dA g) s.heap H locs → lv_has ls 4 [(2, .int v16)] → W p l e (headSpec wsX12_marches (dRm 0 0)).room s mth (([.ref (dad g p0), .int p1] : List Value).toArray) below meth c H locs 0 0 (MQ below (dQI g r0 m) (([.ref (dad g p0), .int p1] : List Value).toArray) s 0 0 (dA g)) (F0 mth 55 ls [])) q) ?_ dFl _ qL1 hqL1 ?_ H locs ls hP hS (lv_sub hl [0, 1, 2, 3] rfl)
    · intro q o h hCL1 hEL1
      obtain ⟨v2, v3⟩ := q
      have h : fX12_marches_l17 m p1 v2 v3 = some o := h
      intro H locs ls hP hS hl
      have hP : va_P g.1 vwCl (dws g m) H := hP
      have hl : lv_has ls 4 [(3, .int v2), (2, .int v3), (0, .ref (dad g p0)), (1, .int p1)] := hl
      unfold fX12_marches_l17 at h
      refine lv_iload_n S.1 S.2.1 dX12_marches_17 rfl (lv_at hl 0 rfl) ?_
      refine lv_iconst (v := 3) S.1 S.2.1 dX12_marches_18 (by decide) ?_
      refine lv_icmp_ge (tgt := 55) S.1 S.2.1 dX12_marches_19 (by decide) (fun cq => ?_) (fun cq => ?_)
      · have h := d_t cq h
        obtain rfl := Option.some.inj h
        exact hEL1 _ rfl H locs ls hP hS (lv_sub hl [1] rfl)
      · have h := d_f cq h
        refine lv_iload_n S.1 S.2.1 dX12_marches_22 rfl (lv_at hl 1 rfl) ?_
        refine lv_aload_n S.1 S.2.1 dX12_marches_23 rfl (lv_at hl 2 rfl) ?_
        refine dgf12_3 S in12 hE hP k0 (S.2.2.2.2 (.fieldLink RX12 21 "DrillFieldModel" "knows" "[I") (List.mem_of_getElem? (i := 2) rfl)) dX12_marches_24 ?_
        refine lv_iload_n S.1 S.2.1 dX12_marches_27 rfl (lv_at hl 0 rfl) ?_
        obtain ⟨hi, h⟩ := d_g h
        refine d_iald S hE hP dk_447 hi dX12_marches_28 ?_
        refine lv_iload_n S.1 S.2.1 dX12_marches_29 rfl (lv_at hl 3 rfl) ?_
        refine lv_icmp_ne (tgt := 46) S.1 S.2.1 dX12_marches_30 (by decide) (fun cq => ?_) (fun cq => ?_)
        · have h := d_f cq h
          refine lv_iconst (v := 0) S.1 S.2.1 dX12_marches_46 (by decide) ?_
          refine lv_ior S.1 S.2.1 dX12_marches_47 ?_
          refine lv_topi (fun v10 ev10 => ?_)
          have h := d_let ev10 h
          refine lv_istore_n (lv' := [(2, .int v10), (3, .int v2), (0, .ref (dad g p0)), (1, .int p1)]) S.1 S.2.1 dX12_marches_48 rfl hl (by decide) rfl (fun ls hl => ?_)
          obtain ⟨v11, ev11⟩ : ∃ z : Int32, z = v2 + 1 := ⟨_, rfl⟩
          have h := d_let ev11 h
          refine lv_iinc (v := v11) (lv' := [(3, .int v11), (2, .int v10), (0, .ref (dad g p0)), (1, .int p1)]) S.1 S.2.1 dX12_marches_49 hl (k := 1) rfl (by rw [ev11]; rfl) (by decide) rfl (fun ls hl => ?_)
          refine lv_goto (tgt := 17) S.1 S.2.1 dX12_marches_52 (by decide) ?_
          obtain rfl := Option.some.inj h
          exact hCL1 _ rfl H locs ls hP hS (lv_sub hl [0, 1, 2, 3] rfl)
        · have h := d_t cq h
          refine lv_aload_n S.1 S.2.1 dX12_marches_33 rfl (lv_at hl 2 rfl) ?_
          refine dgf12_4 S in12 hE hP k0 (S.2.2.2.2 (.fieldLink RX12 24 "DrillFieldModel" "illOne" "[Z") (List.mem_of_getElem? (i := 3) rfl)) dX12_marches_34 ?_
          refine lv_iload_n S.1 S.2.1 dX12_marches_37 rfl (lv_at hl 0 rfl) ?_
          obtain ⟨hi, h⟩ := d_g h
          refine d_zald S hE hP dk_448 hi dX12_marches_38 ?_
          refine lv_if_ne (tgt := 46) S.1 S.2.1 dX12_marches_39 (by decide) (fun cq => ?_) (fun cq => ?_)
          · have h := d_f cq h
            refine lv_iconst (v := 0) S.1 S.2.1 dX12_marches_46 (by decide) ?_
            refine lv_ior S.1 S.2.1 dX12_marches_47 ?_
            refine lv_topi (fun v12 ev12 => ?_)
            have h := d_let ev12 h
            refine lv_istore_n (lv' := [(2, .int v12), (3, .int v2), (0, .ref (dad g p0)), (1, .int p1)]) S.1 S.2.1 dX12_marches_48 rfl hl (by decide) rfl (fun ls hl => ?_)
            obtain ⟨v13, ev13⟩ : ∃ z : Int32, z = v2 + 1 := ⟨_, rfl⟩
            have h := d_let ev13 h
            refine lv_iinc (v := v13) (lv' := [(3, .int v13), (2, .int v12), (0, .ref (dad g p0)), (1, .int p1)]) S.1 S.2.1 dX12_marches_49 hl (k := 1) rfl (by rw [ev13]; rfl) (by decide) rfl (fun ls hl => ?_)
            refine lv_goto (tgt := 17) S.1 S.2.1 dX12_marches_52 (by decide) ?_
            obtain rfl := Option.some.inj h
            exact hCL1 _ rfl H locs ls hP hS (lv_sub hl [0, 1, 2, 3] rfl)
          · have h := d_t cq h
            refine lv_iconst (v := 1) S.1 S.2.1 dX12_marches_42 (by decide) ?_
            refine lv_goto (tgt := 47) S.1 S.2.1 dX12_marches_43 (by decide) ?_
            refine lv_ior S.1 S.2.1 dX12_marches_47 ?_
            refine lv_topi (fun v14 ev14 => ?_)
            have h := d_let ev14 h
            refine lv_istore_n (lv' := [(2, .int v14), (3, .int v2), (0, .ref (dad g p0)), (1, .int p1)]) S.1 S.2.1 dX12_marches_48 rfl hl (by decide) rfl (fun ls hl => ?_)
            obtain ⟨v15, ev15⟩ : ∃ z : Int32, z = v2 + 1 := ⟨_, rfl⟩
            have h := d_let ev15 h
            refine lv_iinc (v := v15) (lv' := [(3, .int v15), (2, .int v14), (0, .ref (dad g p0)), (1, .int p1)]) S.1 S.2.1 dX12_marches_49 hl (k := 1) rfl (by rw [ev15]; rfl) (by decide) rfl (fun ls hl => ?_)
            refine lv_goto (tgt := 17) S.1 S.2.1 dX12_marches_52 (by decide) ?_
            obtain rfl := Option.some.inj h
            exact hCL1 _ rfl H locs ls hP hS (lv_sub hl [0, 1, 2, 3] rfl)
    · obtain ⟨v16, rfl⟩ : ∃ z, z = qL1 := ⟨_, rfl⟩
      have h := d_p1 h
      intro H locs ls hP hS hl
      have hP : va_P g.1 vwCl (dws g m) H := hP
      have hl : lv_has ls 4 [(2, .int v16)] := hl
      refine lv_iload_n S.1 S.2.1 dX12_marches_55 rfl (lv_at hl 0 rfl) ?_
      obtain ⟨hb, h⟩ := d_g h
      obtain rfl := Option.some.inj h
      exact dti S hr hlk hE hP hS (dB_nar2 hb) dX12_marches_56
  · have h := d_t cq h
    refine lv_iconst (v := 1) S.1 S.2.1 dX12_marches_9 (by decide) ?_
    refine lv_goto (tgt := 14) S.1 S.2.1 dX12_marches_10 (by decide) ?_
    refine lv_istore_n (lv' := [(2, .int 1), (0, .ref (dad g p0)), (1, .int p1)]) S.1 S.2.1 dX12_marches_14 rfl hl (by decide) rfl (fun ls hl => ?_)
    refine lv_iconst (v := 0) S.1 S.2.1 dX12_marches_15 (by decide) ?_
    refine lv_istore_n (lv' := [(3, .int 0), (2, .int 1), (0, .ref (dad g p0)), (1, .int p1)]) S.1 S.2.1 dX12_marches_16 rfl hl (by decide) rfl (fun ls hl => ?_)
    obtain ⟨qL17, hqL17, h⟩ := d_b h
    refine d_lp (Hd := fun q => match q with | (v18, v19) => ∀ (H : Heap) (locs : List Loc) (ls : Array Slot), va_P g.1 vwCl (dws g m) H → va_S (dA g) s.heap H locs → lv_has ls 4 [(3, .int v18), (2, .int v19), (0, .ref (dad g p0)), (1, .int p1)] → W p l e (headSpec wsX12_marches (dRm 0 0)).room s mth (([.ref (dad g p0), .int p1] : List Value).toArray) below meth c H locs 0 0 (MQ below (dQI g r0 m) (([.ref (dad g p0), .int p1] : List Value).toArray) s 0 0 (dA g)) (F0 mth 17 ls [])) (K := fun q => (fun (v32 : _) => ∀ (H : Heap) (locs : List Loc) (ls : Array Slot), va_P g.1 vwCl (dws g m) H → va_S (dA g) s.heap H locs → lv_has ls 4 [(2, .int v32)] → W p l e (headSpec wsX12_marches (dRm 0 0)).room s mth (([.ref (dad g p0), .int p1] : List Value).toArray) below meth c H locs 0 0 (MQ below (dQI g r0 m) (([.ref (dad g p0), .int p1] : List Value).toArray) s 0 0 (dA g)) (F0 mth 55 ls [])) q) ?_ dFl _ qL17 hqL17 ?_ H locs ls hP hS (lv_sub hl [0, 1, 2, 3] rfl)
    · intro q o h hCL17 hEL17
      obtain ⟨v18, v19⟩ := q
      have h : fX12_marches_l17_2 m p1 v18 v19 = some o := h
      intro H locs ls hP hS hl
      have hP : va_P g.1 vwCl (dws g m) H := hP
      have hl : lv_has ls 4 [(3, .int v18), (2, .int v19), (0, .ref (dad g p0)), (1, .int p1)] := hl
      unfold fX12_marches_l17_2 at h
      refine lv_iload_n S.1 S.2.1 dX12_marches_17 rfl (lv_at hl 0 rfl) ?_
      refine lv_iconst (v := 3) S.1 S.2.1 dX12_marches_18 (by decide) ?_
      refine lv_icmp_ge (tgt := 55) S.1 S.2.1 dX12_marches_19 (by decide) (fun cq => ?_) (fun cq => ?_)
      · have h := d_t cq h
        obtain rfl := Option.some.inj h
        exact hEL17 _ rfl H locs ls hP hS (lv_sub hl [1] rfl)
      · have h := d_f cq h
        refine lv_iload_n S.1 S.2.1 dX12_marches_22 rfl (lv_at hl 1 rfl) ?_
        refine lv_aload_n S.1 S.2.1 dX12_marches_23 rfl (lv_at hl 2 rfl) ?_
        refine dgf12_3 S in12 hE hP k0 (S.2.2.2.2 (.fieldLink RX12 21 "DrillFieldModel" "knows" "[I") (List.mem_of_getElem? (i := 2) rfl)) dX12_marches_24 ?_
        refine lv_iload_n S.1 S.2.1 dX12_marches_27 rfl (lv_at hl 0 rfl) ?_
        obtain ⟨hi, h⟩ := d_g h
        refine d_iald S hE hP dk_447 hi dX12_marches_28 ?_
        refine lv_iload_n S.1 S.2.1 dX12_marches_29 rfl (lv_at hl 3 rfl) ?_
        refine lv_icmp_ne (tgt := 46) S.1 S.2.1 dX12_marches_30 (by decide) (fun cq => ?_) (fun cq => ?_)
        · have h := d_f cq h
          refine lv_iconst (v := 0) S.1 S.2.1 dX12_marches_46 (by decide) ?_
          refine lv_ior S.1 S.2.1 dX12_marches_47 ?_
          refine lv_topi (fun v26 ev26 => ?_)
          have h := d_let ev26 h
          refine lv_istore_n (lv' := [(2, .int v26), (3, .int v18), (0, .ref (dad g p0)), (1, .int p1)]) S.1 S.2.1 dX12_marches_48 rfl hl (by decide) rfl (fun ls hl => ?_)
          obtain ⟨v27, ev27⟩ : ∃ z : Int32, z = v18 + 1 := ⟨_, rfl⟩
          have h := d_let ev27 h
          refine lv_iinc (v := v27) (lv' := [(3, .int v27), (2, .int v26), (0, .ref (dad g p0)), (1, .int p1)]) S.1 S.2.1 dX12_marches_49 hl (k := 1) rfl (by rw [ev27]; rfl) (by decide) rfl (fun ls hl => ?_)
          refine lv_goto (tgt := 17) S.1 S.2.1 dX12_marches_52 (by decide) ?_
          obtain rfl := Option.some.inj h
          exact hCL17 _ rfl H locs ls hP hS (lv_sub hl [0, 1, 2, 3] rfl)
        · have h := d_t cq h
          refine lv_aload_n S.1 S.2.1 dX12_marches_33 rfl (lv_at hl 2 rfl) ?_
          refine dgf12_4 S in12 hE hP k0 (S.2.2.2.2 (.fieldLink RX12 24 "DrillFieldModel" "illOne" "[Z") (List.mem_of_getElem? (i := 3) rfl)) dX12_marches_34 ?_
          refine lv_iload_n S.1 S.2.1 dX12_marches_37 rfl (lv_at hl 0 rfl) ?_
          obtain ⟨hi, h⟩ := d_g h
          refine d_zald S hE hP dk_448 hi dX12_marches_38 ?_
          refine lv_if_ne (tgt := 46) S.1 S.2.1 dX12_marches_39 (by decide) (fun cq => ?_) (fun cq => ?_)
          · have h := d_f cq h
            refine lv_iconst (v := 0) S.1 S.2.1 dX12_marches_46 (by decide) ?_
            refine lv_ior S.1 S.2.1 dX12_marches_47 ?_
            refine lv_topi (fun v28 ev28 => ?_)
            have h := d_let ev28 h
            refine lv_istore_n (lv' := [(2, .int v28), (3, .int v18), (0, .ref (dad g p0)), (1, .int p1)]) S.1 S.2.1 dX12_marches_48 rfl hl (by decide) rfl (fun ls hl => ?_)
            obtain ⟨v29, ev29⟩ : ∃ z : Int32, z = v18 + 1 := ⟨_, rfl⟩
            have h := d_let ev29 h
            refine lv_iinc (v := v29) (lv' := [(3, .int v29), (2, .int v28), (0, .ref (dad g p0)), (1, .int p1)]) S.1 S.2.1 dX12_marches_49 hl (k := 1) rfl (by rw [ev29]; rfl) (by decide) rfl (fun ls hl => ?_)
            refine lv_goto (tgt := 17) S.1 S.2.1 dX12_marches_52 (by decide) ?_
            obtain rfl := Option.some.inj h
            exact hCL17 _ rfl H locs ls hP hS (lv_sub hl [0, 1, 2, 3] rfl)
          · have h := d_t cq h
            refine lv_iconst (v := 1) S.1 S.2.1 dX12_marches_42 (by decide) ?_
            refine lv_goto (tgt := 47) S.1 S.2.1 dX12_marches_43 (by decide) ?_
            refine lv_ior S.1 S.2.1 dX12_marches_47 ?_
            refine lv_topi (fun v30 ev30 => ?_)
            have h := d_let ev30 h
            refine lv_istore_n (lv' := [(2, .int v30), (3, .int v18), (0, .ref (dad g p0)), (1, .int p1)]) S.1 S.2.1 dX12_marches_48 rfl hl (by decide) rfl (fun ls hl => ?_)
            obtain ⟨v31, ev31⟩ : ∃ z : Int32, z = v18 + 1 := ⟨_, rfl⟩
            have h := d_let ev31 h
            refine lv_iinc (v := v31) (lv' := [(3, .int v31), (2, .int v30), (0, .ref (dad g p0)), (1, .int p1)]) S.1 S.2.1 dX12_marches_49 hl (k := 1) rfl (by rw [ev31]; rfl) (by decide) rfl (fun ls hl => ?_)
            refine lv_goto (tgt := 17) S.1 S.2.1 dX12_marches_52 (by decide) ?_
            obtain rfl := Option.some.inj h
            exact hCL17 _ rfl H locs ls hP hS (lv_sub hl [0, 1, 2, 3] rfl)
    · obtain ⟨v32, rfl⟩ : ∃ z, z = qL17 := ⟨_, rfl⟩
      have h := d_p1 h
      intro H locs ls hP hS hl
      have hP : va_P g.1 vwCl (dws g m) H := hP
      have hl : lv_has ls 4 [(2, .int v32)] := hl
      refine lv_iload_n S.1 S.2.1 dX12_marches_55 rfl (lv_at hl 0 rfl) ?_
      obtain ⟨hb, h⟩ := d_g h
      obtain rfl := Option.some.inj h
      exact dti S hr hlk hE hP hS (dB_nar2 hb) dX12_marches_56
theorem dX12_size_0 : decode cX12_size 0 = .ok (.iload_n 0, 1) := by decide +kernel
theorem dX12_size_1 : decode cX12_size 1 = .ok (.ifCond .ge 8, 3) := by decide +kernel
theorem dX12_size_4 : decode cX12_size 4 = .ok (.iload_n 0, 1) := by decide +kernel
theorem dX12_size_5 : decode cX12_size 5 = .ok (.ineg, 1) := by decide +kernel
theorem dX12_size_6 : decode cX12_size 6 = .ok (.goto 4, 3) := by decide +kernel
theorem dX12_size_9 : decode cX12_size 9 = .ok (.iload_n 0, 1) := by decide +kernel
theorem dX12_size_10 : decode cX12_size 10 = .ok (.ireturn, 1) := by decide +kernel
def fX12_size (m : dM) (p0 : Int32) : Option Int32 := if 0 ≤ p0 then some p0 else some (-p0)
set_option maxHeartbeats 4000000 in
set_option maxRecDepth 100000 in
theorem kX12_size (l : Launch) (g : dG) {m : dM} {p0 : Int32} {r0 : Int32} (h : fX12_size m p0 = some r0) : dMet l g yX12_size wsX12_size (dRm 0 0) [.int p0] m (dQI g r0 m) := by
  refine dof (cc := cX12_size) (maxL := 1) (ret := (some .int)) _ (plainFor_of_name (by decide)) rfl (Nat.le_of_ble_eq_true rfl) ?_
  intro p e s mth below meth c S hr hlk hE H ls hP hS hl
  have S : CallFix p mth c cX12_size 1 s _ wsX12_size RX12 := S
  have hl : lv_has ls 1 [(0, .int p0)] := hl
  obtain ⟨locs, hlocs⟩ : ∃ z : List Loc, z = [] := ⟨_, rfl⟩
  rw [← hlocs] at hS ⊢
  unfold fX12_size at h
  refine lv_iload_n S.1 S.2.1 dX12_size_0 rfl (lv_at hl 0 rfl) ?_
  refine lv_if_ge (tgt := 9) S.1 S.2.1 dX12_size_1 (by decide) (fun cq => ?_) (fun cq => ?_)
  · have h := d_t cq h
    refine lv_iload_n S.1 S.2.1 dX12_size_9 rfl (lv_at hl 0 rfl) ?_
    obtain rfl := Option.some.inj h
    exact dti S hr hlk hE hP hS rfl dX12_size_10
  · have h := d_f cq h
    refine lv_iload_n S.1 S.2.1 dX12_size_4 rfl (lv_at hl 0 rfl) ?_
    refine lv_ineg S.1 S.2.1 dX12_size_5 ?_
    refine lv_goto (tgt := 10) S.1 S.2.1 dX12_size_6 (by decide) ?_
    obtain rfl := Option.some.inj h
    exact dti S hr hlk hE hP hS rfl dX12_size_10
set_option maxRecDepth 20000 in
theorem ggX12_caught_X12_isPart : GoodIn wsX12_caught wsX12_isPart := goodIn_r _ [7, 8, 9, 10, 6, 11, 58, 59, 60, 61, 62, 63, 64, 65, 66, 67, 68, 69, 70, 71, 72, 73, 74, 75, 76, 77, 78, 79, 80, 81, 82, 83, 84, 85] (by decide +kernel) (by decide +kernel)
set_option maxRecDepth 20000 in
theorem gX12_caught_X12_isPart : GoodIn wsX12_caught (wsV RX12 152 RX12 yX12_isPart wsX12_isPart) := goodIn_app (goodIn_of _ (by decide +kernel)) ggX12_caught_X12_isPart
set_option maxRecDepth 20000 in
theorem ggX12_caught_X12_isDot : GoodIn wsX12_caught wsX12_isDot := goodIn_r _ [15, 16, 9, 10, 6, 11, 58, 59, 60, 61, 62, 63, 64, 65, 66, 67, 68, 69, 70, 71, 72, 73, 74, 75, 76, 77, 78, 79, 80, 81, 82, 83, 84, 85] (by decide +kernel) (by decide +kernel)
set_option maxRecDepth 20000 in
theorem gX12_caught_X12_isDot : GoodIn wsX12_caught (wsV RX12 89 RX12 yX12_isDot wsX12_isDot) := goodIn_app (goodIn_of _ (by decide +kernel)) ggX12_caught_X12_isDot
set_option maxRecDepth 20000 in
theorem ggX12_caught_X12_isIn : GoodIn wsX12_caught wsX12_isIn := goodIn_r _ [11] (by decide +kernel) (by decide +kernel)
set_option maxRecDepth 20000 in
theorem gX12_caught_X12_isIn : GoodIn wsX12_caught (va_wsS RX12 79 yX12_isIn wsX12_isIn) := goodIn_app (goodIn_of _ (by decide +kernel)) ggX12_caught_X12_isIn
set_option maxRecDepth 20000 in
theorem ggX12_caught_X12_marches : GoodIn wsX12_caught wsX12_marches := goodIn_r _ [20, 21, 22, 23, 58, 59, 60, 61, 62, 63, 64, 65, 66, 67, 68, 69, 70, 71, 72, 73, 74, 75, 76, 77, 78, 79, 80, 81, 82, 83, 84, 85] (by decide +kernel) (by decide +kernel)
set_option maxRecDepth 20000 in
theorem gX12_caught_X12_marches : GoodIn wsX12_caught (wsV RX12 93 RX12 yX12_marches wsX12_marches) := goodIn_app (goodIn_of _ (by decide +kernel)) ggX12_caught_X12_marches
set_option maxRecDepth 20000 in
theorem ggX12_caught_X12_xAt : GoodIn wsX12_caught wsX12_xAt := goodIn_r _ [27, 1, 28, 29, 30, 6, 31, 32, 33, 34, 35, 36, 37, 38, 39, 40, 41, 58, 59, 60, 61, 62, 63, 64, 65, 66, 67, 68, 69, 70, 71, 72, 73, 74, 75, 76, 77, 78, 79, 80, 81, 82, 83, 84, 85] (by decide +kernel) (by decide +kernel)
set_option maxRecDepth 20000 in
theorem gX12_caught_X12_xAt : GoodIn wsX12_caught (wsV RX12 155 RX12 yX12_xAt wsX12_xAt) := goodIn_app (goodIn_of _ (by decide +kernel)) ggX12_caught_X12_xAt
set_option maxRecDepth 20000 in
theorem ggX12_caught_X12_yAt : GoodIn wsX12_caught wsX12_yAt := goodIn_r _ [45, 1, 46, 47, 48, 6, 49, 50, 51, 52, 53, 54, 37, 38, 39, 40, 41, 58, 59, 60, 61, 62, 63, 64, 65, 66, 67, 68, 69, 70, 71, 72, 73, 74, 75, 76, 77, 78, 79, 80, 81, 82, 83, 84, 85] (by decide +kernel) (by decide +kernel)
set_option maxRecDepth 20000 in
theorem gX12_caught_X12_yAt : GoodIn wsX12_caught (wsV RX12 159 RX12 yX12_yAt wsX12_yAt) := goodIn_app (goodIn_of _ (by decide +kernel)) ggX12_caught_X12_yAt
set_option maxRecDepth 20000 in
theorem ggX12_caught_X12_size : GoodIn wsX12_caught wsX12_size := goodIn_r _ [57] (by decide +kernel) (by decide +kernel)
set_option maxRecDepth 20000 in
theorem gX12_caught_X12_size : GoodIn wsX12_caught (va_wsS RX12 204 yX12_size wsX12_size) := goodIn_app (goodIn_of _ (by decide +kernel)) ggX12_caught_X12_size
theorem dX12_caught_0 : decode cX12_caught 0 = .ok (.aload_n 0, 1) := by decide +kernel
theorem dX12_caught_1 : decode cX12_caught 1 = .ok (.aload_n 0, 1) := by decide +kernel
theorem dX12_caught_2 : decode cX12_caught 2 = .ok (.iload_n 1, 1) := by decide +kernel
theorem dX12_caught_3 : decode cX12_caught 3 = .ok (.invokevirtual 152, 3) := by decide +kernel
theorem dX12_caught_6 : decode cX12_caught 6 = .ok (.ifCond .eq 11, 3) := by decide +kernel
theorem dX12_caught_9 : decode cX12_caught 9 = .ok (.aload_n 0, 1) := by decide +kernel
theorem dX12_caught_10 : decode cX12_caught 10 = .ok (.iload_n 3, 1) := by decide +kernel
theorem dX12_caught_11 : decode cX12_caught 11 = .ok (.invokevirtual 89, 3) := by decide +kernel
theorem dX12_caught_14 : decode cX12_caught 14 = .ok (.ifCond .ne 7, 3) := by decide +kernel
theorem dX12_caught_17 : decode cX12_caught 17 = .ok (.iconst 1, 1) := by decide +kernel
theorem dX12_caught_18 : decode cX12_caught 18 = .ok (.goto 57, 3) := by decide +kernel
theorem dX12_caught_21 : decode cX12_caught 21 = .ok (.iload_n 2, 1) := by decide +kernel
theorem dX12_caught_22 : decode cX12_caught 22 = .ok (.iconst 0, 1) := by decide +kernel
theorem dX12_caught_23 : decode cX12_caught 23 = .ok (.aload_n 0, 1) := by decide +kernel
theorem dX12_caught_24 : decode cX12_caught 24 = .ok (.getfield 36, 3) := by decide +kernel
theorem dX12_caught_27 : decode cX12_caught 27 = .ok (.iload_n 1, 1) := by decide +kernel
theorem dX12_caught_28 : decode cX12_caught 28 = .ok (.iaload, 1) := by decide +kernel
theorem dX12_caught_29 : decode cX12_caught 29 = .ok (.invokestatic 79, 3) := by decide +kernel
theorem dX12_caught_32 : decode cX12_caught 32 = .ok (.ifCond .eq 26, 3) := by decide +kernel
theorem dX12_caught_35 : decode cX12_caught 35 = .ok (.iload 4, 2) := by decide +kernel
theorem dX12_caught_37 : decode cX12_caught 37 = .ok (.iconst 1, 1) := by decide +kernel
theorem dX12_caught_38 : decode cX12_caught 38 = .ok (.bipush 9, 2) := by decide +kernel
theorem dX12_caught_40 : decode cX12_caught 40 = .ok (.invokestatic 79, 3) := by decide +kernel
theorem dX12_caught_43 : decode cX12_caught 43 = .ok (.ifCond .eq 15, 3) := by decide +kernel
theorem dX12_caught_46 : decode cX12_caught 46 = .ok (.iload 5, 2) := by decide +kernel
theorem dX12_caught_48 : decode cX12_caught 48 = .ok (.bipush (-20), 2) := by decide +kernel
theorem dX12_caught_50 : decode cX12_caught 50 = .ok (.bipush 20, 2) := by decide +kernel
theorem dX12_caught_52 : decode cX12_caught 52 = .ok (.invokestatic 79, 3) := by decide +kernel
theorem dX12_caught_55 : decode cX12_caught 55 = .ok (.ifCond .ne 7, 3) := by decide +kernel
theorem dX12_caught_58 : decode cX12_caught 58 = .ok (.iconst 2, 1) := by decide +kernel
theorem dX12_caught_59 : decode cX12_caught 59 = .ok (.goto 16, 3) := by decide +kernel
theorem dX12_caught_62 : decode cX12_caught 62 = .ok (.aload_n 0, 1) := by decide +kernel
theorem dX12_caught_63 : decode cX12_caught 63 = .ok (.iload_n 3, 1) := by decide +kernel
theorem dX12_caught_64 : decode cX12_caught 64 = .ok (.invokevirtual 93, 3) := by decide +kernel
theorem dX12_caught_67 : decode cX12_caught 67 = .ok (.ifCond .ne 7, 3) := by decide +kernel
theorem dX12_caught_70 : decode cX12_caught 70 = .ok (.iconst 3, 1) := by decide +kernel
theorem dX12_caught_71 : decode cX12_caught 71 = .ok (.goto 4, 3) := by decide +kernel
theorem dX12_caught_74 : decode cX12_caught 74 = .ok (.iconst 0, 1) := by decide +kernel
theorem dX12_caught_75 : decode cX12_caught 75 = .ok (.putfield 76, 3) := by decide +kernel
theorem dX12_caught_78 : decode cX12_caught 78 = .ok (.aload_n 0, 1) := by decide +kernel
theorem dX12_caught_79 : decode cX12_caught 79 = .ok (.getfield 76, 3) := by decide +kernel
theorem dX12_caught_82 : decode cX12_caught 82 = .ok (.ifCond .le 5, 3) := by decide +kernel
theorem dX12_caught_85 : decode cX12_caught 85 = .ok (.iconst 0, 1) := by decide +kernel
theorem dX12_caught_86 : decode cX12_caught 86 = .ok (.ireturn, 1) := by decide +kernel
theorem dX12_caught_87 : decode cX12_caught 87 = .ok (.iload_n 2, 1) := by decide +kernel
theorem dX12_caught_88 : decode cX12_caught 88 = .ok (.iload 4, 2) := by decide +kernel
theorem dX12_caught_90 : decode cX12_caught 90 = .ok (.iadd, 1) := by decide +kernel
theorem dX12_caught_91 : decode cX12_caught 91 = .ok (.aload_n 0, 1) := by decide +kernel
theorem dX12_caught_92 : decode cX12_caught 92 = .ok (.getfield 36, 3) := by decide +kernel
theorem dX12_caught_95 : decode cX12_caught 95 = .ok (.iload_n 1, 1) := by decide +kernel
theorem dX12_caught_96 : decode cX12_caught 96 = .ok (.iaload, 1) := by decide +kernel
theorem dX12_caught_97 : decode cX12_caught 97 = .ok (.if_icmp .le 12, 3) := by decide +kernel
theorem dX12_caught_100 : decode cX12_caught 100 = .ok (.aload_n 0, 1) := by decide +kernel
theorem dX12_caught_101 : decode cX12_caught 101 = .ok (.getfield 36, 3) := by decide +kernel
theorem dX12_caught_104 : decode cX12_caught 104 = .ok (.iload_n 1, 1) := by decide +kernel
theorem dX12_caught_105 : decode cX12_caught 105 = .ok (.iaload, 1) := by decide +kernel
theorem dX12_caught_106 : decode cX12_caught 106 = .ok (.goto 7, 3) := by decide +kernel
theorem dX12_caught_109 : decode cX12_caught 109 = .ok (.iload_n 2, 1) := by decide +kernel
theorem dX12_caught_110 : decode cX12_caught 110 = .ok (.iload 4, 2) := by decide +kernel
theorem dX12_caught_112 : decode cX12_caught 112 = .ok (.iadd, 1) := by decide +kernel
theorem dX12_caught_113 : decode cX12_caught 113 = .ok (.istore 6, 2) := by decide +kernel
theorem dX12_caught_115 : decode cX12_caught 115 = .ok (.aload_n 0, 1) := by decide +kernel
theorem dX12_caught_116 : decode cX12_caught 116 = .ok (.iload_n 1, 1) := by decide +kernel
theorem dX12_caught_117 : decode cX12_caught 117 = .ok (.iload_n 2, 1) := by decide +kernel
theorem dX12_caught_118 : decode cX12_caught 118 = .ok (.iload_n 3, 1) := by decide +kernel
theorem dX12_caught_119 : decode cX12_caught 119 = .ok (.invokevirtual 155, 3) := by decide +kernel
theorem dX12_caught_122 : decode cX12_caught 122 = .ok (.iload 5, 2) := by decide +kernel
theorem dX12_caught_124 : decode cX12_caught 124 = .ok (.iload 4, 2) := by decide +kernel
theorem dX12_caught_126 : decode cX12_caught 126 = .ok (.imul, 1) := by decide +kernel
theorem dX12_caught_127 : decode cX12_caught 127 = .ok (.iadd, 1) := by decide +kernel
theorem dX12_caught_128 : decode cX12_caught 128 = .ok (.aload_n 0, 1) := by decide +kernel
theorem dX12_caught_129 : decode cX12_caught 129 = .ok (.iload_n 1, 1) := by decide +kernel
theorem dX12_caught_130 : decode cX12_caught 130 = .ok (.iload 6, 2) := by decide +kernel
theorem dX12_caught_132 : decode cX12_caught 132 = .ok (.iload_n 3, 1) := by decide +kernel
theorem dX12_caught_133 : decode cX12_caught 133 = .ok (.invokevirtual 155, 3) := by decide +kernel
theorem dX12_caught_136 : decode cX12_caught 136 = .ok (.isub, 1) := by decide +kernel
theorem dX12_caught_137 : decode cX12_caught 137 = .ok (.istore 7, 2) := by decide +kernel
theorem dX12_caught_139 : decode cX12_caught 139 = .ok (.aload_n 0, 1) := by decide +kernel
theorem dX12_caught_140 : decode cX12_caught 140 = .ok (.iload_n 1, 1) := by decide +kernel
theorem dX12_caught_141 : decode cX12_caught 141 = .ok (.iload_n 2, 1) := by decide +kernel
theorem dX12_caught_142 : decode cX12_caught 142 = .ok (.iload_n 3, 1) := by decide +kernel
theorem dX12_caught_143 : decode cX12_caught 143 = .ok (.invokevirtual 159, 3) := by decide +kernel
theorem dX12_caught_146 : decode cX12_caught 146 = .ok (.aload_n 0, 1) := by decide +kernel
theorem dX12_caught_147 : decode cX12_caught 147 = .ok (.iload_n 1, 1) := by decide +kernel
theorem dX12_caught_148 : decode cX12_caught 148 = .ok (.iload 6, 2) := by decide +kernel
theorem dX12_caught_150 : decode cX12_caught 150 = .ok (.iload_n 3, 1) := by decide +kernel
theorem dX12_caught_151 : decode cX12_caught 151 = .ok (.invokevirtual 159, 3) := by decide +kernel
theorem dX12_caught_154 : decode cX12_caught 154 = .ok (.isub, 1) := by decide +kernel
theorem dX12_caught_155 : decode cX12_caught 155 = .ok (.istore 8, 2) := by decide +kernel
theorem dX12_caught_157 : decode cX12_caught 157 = .ok (.iload 7, 2) := by decide +kernel
theorem dX12_caught_159 : decode cX12_caught 159 = .ok (.invokestatic 204, 3) := by decide +kernel
theorem dX12_caught_162 : decode cX12_caught 162 = .ok (.bipush 10, 2) := by decide +kernel
theorem dX12_caught_164 : decode cX12_caught 164 = .ok (.if_icmp .gt 17, 3) := by decide +kernel
theorem dX12_caught_167 : decode cX12_caught 167 = .ok (.iload 8, 2) := by decide +kernel
theorem dX12_caught_169 : decode cX12_caught 169 = .ok (.invokestatic 204, 3) := by decide +kernel
theorem dX12_caught_172 : decode cX12_caught 172 = .ok (.bipush 10, 2) := by decide +kernel
theorem dX12_caught_174 : decode cX12_caught 174 = .ok (.if_icmp .gt 7, 3) := by decide +kernel
theorem dX12_caught_177 : decode cX12_caught 177 = .ok (.iconst 1, 1) := by decide +kernel
theorem dX12_caught_178 : decode cX12_caught 178 = .ok (.goto 4, 3) := by decide +kernel
theorem dX12_caught_181 : decode cX12_caught 181 = .ok (.iconst 0, 1) := by decide +kernel
theorem dX12_caught_182 : decode cX12_caught 182 = .ok (.ireturn, 1) := by decide +kernel
def fX12_caught (m : dM) (p0 : Nat) (p1 : Int32) (p2 : Int32) (p3 : Int32) (p4 : Int32) (p5 : Int32) : Option (Int32 × dM) := dg (dkg p0 13) ((fX12_isPart m p0 p1).bind (fun v2 => if v2 = 0 then dlet (d1 m p0 25 1) (fun m3 => some (0, m3)) else (fX12_isDot m p0 p3).bind (fun v5 => if v5 = 0 then dlet (d1 m p0 25 1) (fun m49 => some (0, m49)) else dg (dIx p1 (dL 452)) ((fX12_isIn m p2 0 (m.1 452 (Int32.toNatClampNeg (p1)))).bind (fun v7 => if v7 = 0 then dlet (d1 m p0 25 2) (fun m8 => some (0, m8)) else (fX12_isIn m p4 1 9).bind (fun v10 => if v10 = 0 then dlet (d1 m p0 25 2) (fun m11 => some (0, m11)) else (fX12_isIn m p5 (-20) 20).bind (fun v13 => if v13 = 0 then dlet (d1 m p0 25 2) (fun m48 => some (0, m48)) else (fX12_marches m p0 p3).bind (fun v15 => if v15 = 0 then dlet (d1 m p0 25 3) (fun m47 => some (0, m47)) else dlet (d1 m p0 25 0) (fun m16 => dg (dIx p1 (dL 452)) (if (p2 + p4) ≤ (m16.1 452 (Int32.toNatClampNeg (p1))) then dlet (p2 + p4 : Int32) (fun v17 => (fX12_xAt m16 p0 p1 p2 p3).bind (fun v19 => (fX12_xAt m16 p0 p1 v17 p3).bind (fun v21 => dlet ((v19 + (p5 * p4)) - v21 : Int32) (fun v22 => (fX12_yAt m16 p0 p1 p2 p3).bind (fun v24 => (fX12_yAt m16 p0 p1 v17 p3).bind (fun v26 => dlet (v24 - v26 : Int32) (fun v27 => (fX12_size m16 v22).bind (fun v29 => if 10 < v29 then some (0, m16) else (fX12_size m16 v27).bind (fun v31 => if 10 < v31 then some (0, m16) else some (1, m16)))))))))) else dg (dIx p1 (dL 452)) (dlet (m16.1 452 (Int32.toNatClampNeg (p1)) : Int32) (fun v32 => (fX12_xAt m16 p0 p1 p2 p3).bind (fun v34 => (fX12_xAt m16 p0 p1 v32 p3).bind (fun v36 => dlet ((v34 + (p5 * p4)) - v36 : Int32) (fun v37 => (fX12_yAt m16 p0 p1 p2 p3).bind (fun v39 => (fX12_yAt m16 p0 p1 v32 p3).bind (fun v41 => dlet (v39 - v41 : Int32) (fun v42 => (fX12_size m16 v37).bind (fun v44 => if 10 < v44 then some (0, m16) else (fX12_size m16 v42).bind (fun v46 => if 10 < v46 then some (0, m16) else some (1, m16)))))))))))))))))))))
set_option maxHeartbeats 4000000 in
set_option maxRecDepth 100000 in
theorem kX12_caught (l : Launch) (g : dG) {m : dM} {p0 : Nat} {p1 : Int32} {p2 : Int32} {p3 : Int32} {p4 : Int32} {p5 : Int32} {r0 : Int32} {m0 : dM} (h : fX12_caught m p0 p1 p2 p3 p4 p5 = some (r0, m0)) : dMet l g yX12_caught wsX12_caught (dRm 3 68) [.ref (dad g p0), .int p1, .int p2, .int p3, .int p4, .int p5] m (dQI g r0 m0) := by
  refine dof (cc := cX12_caught) (maxL := 9) (ret := (some .boolean)) _ (plainFor_of_name (by decide)) rfl (Nat.le_of_ble_eq_true rfl) ?_
  intro p e s mth below meth c S hr hlk hE H ls hP hS hl
  have S : CallFix p mth c cX12_caught 9 s _ wsX12_caught RX12 := S
  have hl : lv_has ls 9 [(0, .ref (dad g p0)), (1, .int p1), (2, .int p2), (3, .int p3), (4, .int p4), (5, .int p5)] := hl
  obtain ⟨locs, hlocs⟩ : ∃ z : List Loc, z = [] := ⟨_, rfl⟩
  rw [← hlocs] at hS ⊢
  have in12 : ∀ w ∈ wsX120, w ∈ wsX12_caught := by decide +kernel
  unfold fX12_caught at h
  obtain ⟨k0, h⟩ := d_g h
  have k0 := d_k k0
  refine lv_aload_n S.1 S.2.1 dX12_caught_0 rfl (lv_at hl 0 rfl) ?_
  refine lv_aload_n S.1 S.2.1 dX12_caught_1 rfl (lv_at hl 0 rfl) ?_
  refine lv_iload_n S.1 S.2.1 dX12_caught_2 rfl (lv_at hl 1 rfl) ?_
  obtain ⟨v2, hc1, h⟩ := d_b h
  refine dri (va_runV (As := [.int p1]) (rest := [.ref (dad g p0)]) S (kX12_isPart l g hc1) (cwV 1 S.2.2.2.2 gX12_caught_X12_isPart rfl rfl rfl ynX12_isPart ⟨Nat.le_of_ble_eq_true rfl, Nat.le_of_ble_eq_true rfl⟩) (dpV hE hP hS (ci := 12) rfl (dat13 k0)) rfl rfl hl.1 rfl (lv_room (Nat.le_of_ble_eq_true rfl)) dX12_caught_3 ⟨Nat.le_of_ble_eq_true rfl, Nat.le_of_ble_eq_true rfl⟩) hS (fun H locs hP hS => ?_)
  refine lv_if_eq (tgt := 17) S.1 S.2.1 dX12_caught_6 (by decide) (fun cq => ?_) (fun cq => ?_)
  · have h := d_t cq h
    refine lv_iconst (v := 1) S.1 S.2.1 dX12_caught_17 (by decide) ?_
    refine lv_goto (tgt := 75) S.1 S.2.1 dX12_caught_18 (by decide) ?_
    refine dpf12_25 S in12 hE hP hS k0 (S.2.2.2.2 (.fieldLink RX12 76 "DrillFieldModel" "thrown" "I") (List.mem_of_getElem? (i := 2) rfl)) dX12_caught_75 (fun H locs hP hS => ?_)
    obtain ⟨m3, em3⟩ : ∃ z : dM, z = d1 m p0 25 1 := ⟨_, rfl⟩
    have h := d_let em3 h
    rw [← em3] at hP
    refine lv_aload_n S.1 S.2.1 dX12_caught_78 rfl (lv_at hl 0 rfl) ?_
    refine dgf12_25 S in12 hE hP k0 (S.2.2.2.2 (.fieldLink RX12 76 "DrillFieldModel" "thrown" "I") (List.mem_of_getElem? (i := 2) rfl)) dX12_caught_79 ?_
    refine d_top (v := 1) (by rw [em3]; exact d1_get) ?_
    refine lv_if_le (tgt := 87) S.1 S.2.1 dX12_caught_82 (by decide) (fun cq => ?_) (fun cq => ?_)
    · exact absurd cq (by decide)
    · refine lv_iconst (v := 0) S.1 S.2.1 dX12_caught_85 (by decide) ?_
      obtain ⟨rfl, rfl⟩ := Prod.mk.inj (Option.some.inj h)
      exact dti S hr hlk hE hP hS rfl dX12_caught_86
  · have h := d_f cq h
    refine lv_aload_n S.1 S.2.1 dX12_caught_9 rfl (lv_at hl 0 rfl) ?_
    refine lv_iload_n S.1 S.2.1 dX12_caught_10 rfl (lv_at hl 3 rfl) ?_
    obtain ⟨v5, hc4, h⟩ := d_b h
    refine dri (va_runV (As := [.int p3]) (rest := [.ref (dad g p0)]) S (kX12_isDot l g hc4) (cwV 1 S.2.2.2.2 gX12_caught_X12_isDot rfl rfl rfl ynX12_isDot ⟨Nat.le_of_ble_eq_true rfl, Nat.le_of_ble_eq_true rfl⟩) (dpV hE hP hS (ci := 12) rfl (dat13 k0)) rfl rfl hl.1 rfl (lv_room (Nat.le_of_ble_eq_true rfl)) dX12_caught_11 ⟨Nat.le_of_ble_eq_true rfl, Nat.le_of_ble_eq_true rfl⟩) hS (fun H locs hP hS => ?_)
    refine lv_if_ne (tgt := 21) S.1 S.2.1 dX12_caught_14 (by decide) (fun cq => ?_) (fun cq => ?_)
    · have h := d_f cq h
      refine lv_iload_n S.1 S.2.1 dX12_caught_21 rfl (lv_at hl 2 rfl) ?_
      refine lv_iconst (v := 0) S.1 S.2.1 dX12_caught_22 (by decide) ?_
      refine lv_aload_n S.1 S.2.1 dX12_caught_23 rfl (lv_at hl 0 rfl) ?_
      refine dgf12_10 S in12 hE hP k0 (S.2.2.2.2 (.fieldLink RX12 36 "DrillFieldModel" "counts" "[I") (List.mem_of_getElem? (i := 1) rfl)) dX12_caught_24 ?_
      refine lv_iload_n S.1 S.2.1 dX12_caught_27 rfl (lv_at hl 1 rfl) ?_
      obtain ⟨hi, h⟩ := d_g h
      refine d_iald S hE hP dk_452 hi dX12_caught_28 ?_
      obtain ⟨v7, hc6, h⟩ := d_b h
      refine dri (va_runS (As := [.int p2, .int 0, .int (m.1 452 (Int32.toNatClampNeg (p1)))]) (rest := [.ref (dad g p0)]) S (kX12_isIn l g hc6) (va_cwS 3 S.2.2.2.2 gX12_caught_X12_isIn rfl rfl rfl ynX12_isIn ⟨Nat.le_of_ble_eq_true rfl, Nat.le_of_ble_eq_true rfl⟩) (dpS hE hP hS) rfl rfl hl.1 rfl (lv_room (Nat.le_of_ble_eq_true rfl)) dX12_caught_29 ⟨Nat.le_of_ble_eq_true rfl, Nat.le_of_ble_eq_true rfl⟩) hS (fun H locs hP hS => ?_)
      refine lv_if_eq (tgt := 58) S.1 S.2.1 dX12_caught_32 (by decide) (fun cq => ?_) (fun cq => ?_)
      · have h := d_t cq h
        refine lv_iconst (v := 2) S.1 S.2.1 dX12_caught_58 (by decide) ?_
        refine lv_goto (tgt := 75) S.1 S.2.1 dX12_caught_59 (by decide) ?_
        refine dpf12_25 S in12 hE hP hS k0 (S.2.2.2.2 (.fieldLink RX12 76 "DrillFieldModel" "thrown" "I") (List.mem_of_getElem? (i := 2) rfl)) dX12_caught_75 (fun H locs hP hS => ?_)
        obtain ⟨m8, em8⟩ : ∃ z : dM, z = d1 m p0 25 2 := ⟨_, rfl⟩
        have h := d_let em8 h
        rw [← em8] at hP
        refine lv_aload_n S.1 S.2.1 dX12_caught_78 rfl (lv_at hl 0 rfl) ?_
        refine dgf12_25 S in12 hE hP k0 (S.2.2.2.2 (.fieldLink RX12 76 "DrillFieldModel" "thrown" "I") (List.mem_of_getElem? (i := 2) rfl)) dX12_caught_79 ?_
        refine d_top (v := 2) (by rw [em8]; exact d1_get) ?_
        refine lv_if_le (tgt := 87) S.1 S.2.1 dX12_caught_82 (by decide) (fun cq => ?_) (fun cq => ?_)
        · exact absurd cq (by decide)
        · refine lv_iconst (v := 0) S.1 S.2.1 dX12_caught_85 (by decide) ?_
          obtain ⟨rfl, rfl⟩ := Prod.mk.inj (Option.some.inj h)
          exact dti S hr hlk hE hP hS rfl dX12_caught_86
      · have h := d_f cq h
        refine lv_iload S.1 S.2.1 dX12_caught_35 (lv_at hl 4 rfl) ?_
        refine lv_iconst (v := 1) S.1 S.2.1 dX12_caught_37 (by decide) ?_
        refine lv_bipush (v := 9) S.1 S.2.1 dX12_caught_38 (by decide) ?_
        obtain ⟨v10, hc9, h⟩ := d_b h
        refine dri (va_runS (As := [.int p4, .int 1, .int 9]) (rest := [.ref (dad g p0)]) S (kX12_isIn l g hc9) (va_cwS 3 S.2.2.2.2 gX12_caught_X12_isIn rfl rfl rfl ynX12_isIn ⟨Nat.le_of_ble_eq_true rfl, Nat.le_of_ble_eq_true rfl⟩) (dpS hE hP hS) rfl rfl hl.1 rfl (lv_room (Nat.le_of_ble_eq_true rfl)) dX12_caught_40 ⟨Nat.le_of_ble_eq_true rfl, Nat.le_of_ble_eq_true rfl⟩) hS (fun H locs hP hS => ?_)
        refine lv_if_eq (tgt := 58) S.1 S.2.1 dX12_caught_43 (by decide) (fun cq => ?_) (fun cq => ?_)
        · have h := d_t cq h
          refine lv_iconst (v := 2) S.1 S.2.1 dX12_caught_58 (by decide) ?_
          refine lv_goto (tgt := 75) S.1 S.2.1 dX12_caught_59 (by decide) ?_
          refine dpf12_25 S in12 hE hP hS k0 (S.2.2.2.2 (.fieldLink RX12 76 "DrillFieldModel" "thrown" "I") (List.mem_of_getElem? (i := 2) rfl)) dX12_caught_75 (fun H locs hP hS => ?_)
          obtain ⟨m11, em11⟩ : ∃ z : dM, z = d1 m p0 25 2 := ⟨_, rfl⟩
          have h := d_let em11 h
          rw [← em11] at hP
          refine lv_aload_n S.1 S.2.1 dX12_caught_78 rfl (lv_at hl 0 rfl) ?_
          refine dgf12_25 S in12 hE hP k0 (S.2.2.2.2 (.fieldLink RX12 76 "DrillFieldModel" "thrown" "I") (List.mem_of_getElem? (i := 2) rfl)) dX12_caught_79 ?_
          refine d_top (v := 2) (by rw [em11]; exact d1_get) ?_
          refine lv_if_le (tgt := 87) S.1 S.2.1 dX12_caught_82 (by decide) (fun cq => ?_) (fun cq => ?_)
          · exact absurd cq (by decide)
          · refine lv_iconst (v := 0) S.1 S.2.1 dX12_caught_85 (by decide) ?_
            obtain ⟨rfl, rfl⟩ := Prod.mk.inj (Option.some.inj h)
            exact dti S hr hlk hE hP hS rfl dX12_caught_86
        · have h := d_f cq h
          refine lv_iload S.1 S.2.1 dX12_caught_46 (lv_at hl 5 rfl) ?_
          refine lv_bipush (v := (-20)) S.1 S.2.1 dX12_caught_48 (by decide) ?_
          refine lv_bipush (v := 20) S.1 S.2.1 dX12_caught_50 (by decide) ?_
          obtain ⟨v13, hc12, h⟩ := d_b h
          refine dri (va_runS (As := [.int p5, .int (-20), .int 20]) (rest := [.ref (dad g p0)]) S (kX12_isIn l g hc12) (va_cwS 3 S.2.2.2.2 gX12_caught_X12_isIn rfl rfl rfl ynX12_isIn ⟨Nat.le_of_ble_eq_true rfl, Nat.le_of_ble_eq_true rfl⟩) (dpS hE hP hS) rfl rfl hl.1 rfl (lv_room (Nat.le_of_ble_eq_true rfl)) dX12_caught_52 ⟨Nat.le_of_ble_eq_true rfl, Nat.le_of_ble_eq_true rfl⟩) hS (fun H locs hP hS => ?_)
          refine lv_if_ne (tgt := 62) S.1 S.2.1 dX12_caught_55 (by decide) (fun cq => ?_) (fun cq => ?_)
          · have h := d_f cq h
            refine lv_aload_n S.1 S.2.1 dX12_caught_62 rfl (lv_at hl 0 rfl) ?_
            refine lv_iload_n S.1 S.2.1 dX12_caught_63 rfl (lv_at hl 3 rfl) ?_
            obtain ⟨v15, hc14, h⟩ := d_b h
            refine dri (va_runV (As := [.int p3]) (rest := [.ref (dad g p0)]) S (kX12_marches l g hc14) (cwV 1 S.2.2.2.2 gX12_caught_X12_marches rfl rfl rfl ynX12_marches ⟨Nat.le_of_ble_eq_true rfl, Nat.le_of_ble_eq_true rfl⟩) (dpV hE hP hS (ci := 12) rfl (dat13 k0)) rfl rfl hl.1 rfl (lv_room (Nat.le_of_ble_eq_true rfl)) dX12_caught_64 ⟨Nat.le_of_ble_eq_true rfl, Nat.le_of_ble_eq_true rfl⟩) hS (fun H locs hP hS => ?_)
            refine lv_if_ne (tgt := 74) S.1 S.2.1 dX12_caught_67 (by decide) (fun cq => ?_) (fun cq => ?_)
            · have h := d_f cq h
              refine lv_iconst (v := 0) S.1 S.2.1 dX12_caught_74 (by decide) ?_
              refine dpf12_25 S in12 hE hP hS k0 (S.2.2.2.2 (.fieldLink RX12 76 "DrillFieldModel" "thrown" "I") (List.mem_of_getElem? (i := 2) rfl)) dX12_caught_75 (fun H locs hP hS => ?_)
              obtain ⟨m16, em16⟩ : ∃ z : dM, z = d1 m p0 25 0 := ⟨_, rfl⟩
              have h := d_let em16 h
              rw [← em16] at hP
              refine lv_aload_n S.1 S.2.1 dX12_caught_78 rfl (lv_at hl 0 rfl) ?_
              refine dgf12_25 S in12 hE hP k0 (S.2.2.2.2 (.fieldLink RX12 76 "DrillFieldModel" "thrown" "I") (List.mem_of_getElem? (i := 2) rfl)) dX12_caught_79 ?_
              refine d_top (v := 0) (by rw [em16]; exact d1_get) ?_
              refine lv_if_le (tgt := 87) S.1 S.2.1 dX12_caught_82 (by decide) (fun cq => ?_) (fun cq => ?_)
              · refine lv_iload_n S.1 S.2.1 dX12_caught_87 rfl (lv_at hl 2 rfl) ?_
                refine lv_iload S.1 S.2.1 dX12_caught_88 (lv_at hl 4 rfl) ?_
                refine lv_iadd S.1 S.2.1 dX12_caught_90 ?_
                refine lv_aload_n S.1 S.2.1 dX12_caught_91 rfl (lv_at hl 0 rfl) ?_
                refine dgf12_10 S in12 hE hP k0 (S.2.2.2.2 (.fieldLink RX12 36 "DrillFieldModel" "counts" "[I") (List.mem_of_getElem? (i := 1) rfl)) dX12_caught_92 ?_
                refine lv_iload_n S.1 S.2.1 dX12_caught_95 rfl (lv_at hl 1 rfl) ?_
                obtain ⟨hi, h⟩ := d_g h
                refine d_iald S hE hP dk_452 hi dX12_caught_96 ?_
                refine lv_icmp_le (tgt := 109) S.1 S.2.1 dX12_caught_97 (by decide) (fun cq => ?_) (fun cq => ?_)
                · have h := d_t cq h
                  refine lv_iload_n S.1 S.2.1 dX12_caught_109 rfl (lv_at hl 2 rfl) ?_
                  refine lv_iload S.1 S.2.1 dX12_caught_110 (lv_at hl 4 rfl) ?_
                  refine lv_iadd S.1 S.2.1 dX12_caught_112 ?_
                  refine lv_topi (fun v17 ev17 => ?_)
                  have h := d_let ev17 h
                  refine lv_istore (lv' := [(6, .int v17), (0, .ref (dad g p0)), (1, .int p1), (2, .int p2), (3, .int p3), (4, .int p4), (5, .int p5)]) S.1 S.2.1 dX12_caught_113 hl (by decide) rfl (fun ls hl => ?_)
                  refine lv_aload_n S.1 S.2.1 dX12_caught_115 rfl (lv_at hl 1 rfl) ?_
                  refine lv_iload_n S.1 S.2.1 dX12_caught_116 rfl (lv_at hl 2 rfl) ?_
                  refine lv_iload_n S.1 S.2.1 dX12_caught_117 rfl (lv_at hl 3 rfl) ?_
                  refine lv_iload_n S.1 S.2.1 dX12_caught_118 rfl (lv_at hl 4 rfl) ?_
                  obtain ⟨v19, hc18, h⟩ := d_b h
                  refine dri (va_runV (As := [.int p1, .int p2, .int p3]) (rest := []) S (kX12_xAt l g hc18) (cwV 3 S.2.2.2.2 gX12_caught_X12_xAt rfl rfl rfl ynX12_xAt ⟨Nat.le_of_ble_eq_true rfl, Nat.le_of_ble_eq_true rfl⟩) (dpV hE hP hS (ci := 12) rfl (dat13 k0)) rfl rfl hl.1 rfl (lv_room (Nat.le_of_ble_eq_true rfl)) dX12_caught_119 ⟨Nat.le_of_ble_eq_true rfl, Nat.le_of_ble_eq_true rfl⟩) hS (fun H locs hP hS => ?_)
                  refine lv_iload S.1 S.2.1 dX12_caught_122 (lv_at hl 6 rfl) ?_
                  refine lv_iload S.1 S.2.1 dX12_caught_124 (lv_at hl 5 rfl) ?_
                  refine lv_imul S.1 S.2.1 dX12_caught_126 ?_
                  refine lv_iadd S.1 S.2.1 dX12_caught_127 ?_
                  refine lv_aload_n S.1 S.2.1 dX12_caught_128 rfl (lv_at hl 1 rfl) ?_
                  refine lv_iload_n S.1 S.2.1 dX12_caught_129 rfl (lv_at hl 2 rfl) ?_
                  refine lv_iload S.1 S.2.1 dX12_caught_130 (lv_at hl 0 rfl) ?_
                  refine lv_iload_n S.1 S.2.1 dX12_caught_132 rfl (lv_at hl 4 rfl) ?_
                  obtain ⟨v21, hc20, h⟩ := d_b h
                  refine dri (va_runV (As := [.int p1, .int v17, .int p3]) (rest := [.int (v19 + (p5 * p4))]) S (kX12_xAt l g hc20) (cwV 3 S.2.2.2.2 gX12_caught_X12_xAt rfl rfl rfl ynX12_xAt ⟨Nat.le_of_ble_eq_true rfl, Nat.le_of_ble_eq_true rfl⟩) (dpV hE hP hS (ci := 12) rfl (dat13 k0)) rfl rfl hl.1 rfl (lv_room (Nat.le_of_ble_eq_true rfl)) dX12_caught_133 ⟨Nat.le_of_ble_eq_true rfl, Nat.le_of_ble_eq_true rfl⟩) hS (fun H locs hP hS => ?_)
                  refine lv_isub S.1 S.2.1 dX12_caught_136 ?_
                  refine lv_topi (fun v22 ev22 => ?_)
                  have h := d_let ev22 h
                  refine lv_istore (lv' := [(7, .int v22), (6, .int v17), (0, .ref (dad g p0)), (1, .int p1), (2, .int p2), (3, .int p3), (4, .int p4), (5, .int p5)]) S.1 S.2.1 dX12_caught_137 hl (by decide) rfl (fun ls hl => ?_)
                  refine lv_aload_n S.1 S.2.1 dX12_caught_139 rfl (lv_at hl 2 rfl) ?_
                  refine lv_iload_n S.1 S.2.1 dX12_caught_140 rfl (lv_at hl 3 rfl) ?_
                  refine lv_iload_n S.1 S.2.1 dX12_caught_141 rfl (lv_at hl 4 rfl) ?_
                  refine lv_iload_n S.1 S.2.1 dX12_caught_142 rfl (lv_at hl 5 rfl) ?_
                  obtain ⟨v24, hc23, h⟩ := d_b h
                  refine dri (va_runV (As := [.int p1, .int p2, .int p3]) (rest := []) S (kX12_yAt l g hc23) (cwV 3 S.2.2.2.2 gX12_caught_X12_yAt rfl rfl rfl ynX12_yAt ⟨Nat.le_of_ble_eq_true rfl, Nat.le_of_ble_eq_true rfl⟩) (dpV hE hP hS (ci := 12) rfl (dat13 k0)) rfl rfl hl.1 rfl (lv_room (Nat.le_of_ble_eq_true rfl)) dX12_caught_143 ⟨Nat.le_of_ble_eq_true rfl, Nat.le_of_ble_eq_true rfl⟩) hS (fun H locs hP hS => ?_)
                  refine lv_aload_n S.1 S.2.1 dX12_caught_146 rfl (lv_at hl 2 rfl) ?_
                  refine lv_iload_n S.1 S.2.1 dX12_caught_147 rfl (lv_at hl 3 rfl) ?_
                  refine lv_iload S.1 S.2.1 dX12_caught_148 (lv_at hl 1 rfl) ?_
                  refine lv_iload_n S.1 S.2.1 dX12_caught_150 rfl (lv_at hl 5 rfl) ?_
                  obtain ⟨v26, hc25, h⟩ := d_b h
                  refine dri (va_runV (As := [.int p1, .int v17, .int p3]) (rest := [.int v24]) S (kX12_yAt l g hc25) (cwV 3 S.2.2.2.2 gX12_caught_X12_yAt rfl rfl rfl ynX12_yAt ⟨Nat.le_of_ble_eq_true rfl, Nat.le_of_ble_eq_true rfl⟩) (dpV hE hP hS (ci := 12) rfl (dat13 k0)) rfl rfl hl.1 rfl (lv_room (Nat.le_of_ble_eq_true rfl)) dX12_caught_151 ⟨Nat.le_of_ble_eq_true rfl, Nat.le_of_ble_eq_true rfl⟩) hS (fun H locs hP hS => ?_)
                  refine lv_isub S.1 S.2.1 dX12_caught_154 ?_
                  refine lv_topi (fun v27 ev27 => ?_)
                  have h := d_let ev27 h
                  refine lv_istore (lv' := [(8, .int v27), (7, .int v22), (6, .int v17), (0, .ref (dad g p0)), (1, .int p1), (2, .int p2), (3, .int p3), (4, .int p4), (5, .int p5)]) S.1 S.2.1 dX12_caught_155 hl (by decide) rfl (fun ls hl => ?_)
                  refine lv_iload S.1 S.2.1 dX12_caught_157 (lv_at hl 1 rfl) ?_
                  obtain ⟨v29, hc28, h⟩ := d_b h
                  refine dri (va_runS (As := [.int v22]) (rest := []) S (kX12_size l g hc28) (va_cwS 1 S.2.2.2.2 gX12_caught_X12_size rfl rfl rfl ynX12_size ⟨Nat.le_of_ble_eq_true rfl, Nat.le_of_ble_eq_true rfl⟩) (dpS hE hP hS) rfl rfl hl.1 rfl (lv_room (Nat.le_of_ble_eq_true rfl)) dX12_caught_159 ⟨Nat.le_of_ble_eq_true rfl, Nat.le_of_ble_eq_true rfl⟩) hS (fun H locs hP hS => ?_)
                  refine lv_bipush (v := 10) S.1 S.2.1 dX12_caught_162 (by decide) ?_
                  refine lv_icmp_gt (tgt := 181) S.1 S.2.1 dX12_caught_164 (by decide) (fun cq => ?_) (fun cq => ?_)
                  · have h := d_t cq h
                    refine lv_iconst (v := 0) S.1 S.2.1 dX12_caught_181 (by decide) ?_
                    obtain ⟨rfl, rfl⟩ := Prod.mk.inj (Option.some.inj h)
                    exact dti S hr hlk hE hP hS rfl dX12_caught_182
                  · have h := d_f cq h
                    refine lv_iload S.1 S.2.1 dX12_caught_167 (lv_at hl 0 rfl) ?_
                    obtain ⟨v31, hc30, h⟩ := d_b h
                    refine dri (va_runS (As := [.int v27]) (rest := []) S (kX12_size l g hc30) (va_cwS 1 S.2.2.2.2 gX12_caught_X12_size rfl rfl rfl ynX12_size ⟨Nat.le_of_ble_eq_true rfl, Nat.le_of_ble_eq_true rfl⟩) (dpS hE hP hS) rfl rfl hl.1 rfl (lv_room (Nat.le_of_ble_eq_true rfl)) dX12_caught_169 ⟨Nat.le_of_ble_eq_true rfl, Nat.le_of_ble_eq_true rfl⟩) hS (fun H locs hP hS => ?_)
                    refine lv_bipush (v := 10) S.1 S.2.1 dX12_caught_172 (by decide) ?_
                    refine lv_icmp_gt (tgt := 181) S.1 S.2.1 dX12_caught_174 (by decide) (fun cq => ?_) (fun cq => ?_)
                    · have h := d_t cq h
                      refine lv_iconst (v := 0) S.1 S.2.1 dX12_caught_181 (by decide) ?_
                      obtain ⟨rfl, rfl⟩ := Prod.mk.inj (Option.some.inj h)
                      exact dti S hr hlk hE hP hS rfl dX12_caught_182
                    · have h := d_f cq h
                      refine lv_iconst (v := 1) S.1 S.2.1 dX12_caught_177 (by decide) ?_
                      refine lv_goto (tgt := 182) S.1 S.2.1 dX12_caught_178 (by decide) ?_
                      obtain ⟨rfl, rfl⟩ := Prod.mk.inj (Option.some.inj h)
                      exact dti S hr hlk hE hP hS rfl dX12_caught_182
                · have h := d_f cq h
                  refine lv_aload_n S.1 S.2.1 dX12_caught_100 rfl (lv_at hl 0 rfl) ?_
                  refine dgf12_10 S in12 hE hP k0 (S.2.2.2.2 (.fieldLink RX12 36 "DrillFieldModel" "counts" "[I") (List.mem_of_getElem? (i := 1) rfl)) dX12_caught_101 ?_
                  refine lv_iload_n S.1 S.2.1 dX12_caught_104 rfl (lv_at hl 1 rfl) ?_
                  obtain ⟨hi, h⟩ := d_g h
                  refine d_iald S hE hP dk_452 hi dX12_caught_105 ?_
                  refine lv_goto (tgt := 113) S.1 S.2.1 dX12_caught_106 (by decide) ?_
                  refine lv_topi (fun v32 ev32 => ?_)
                  have h := d_let ev32 h
                  refine lv_istore (lv' := [(6, .int v32), (0, .ref (dad g p0)), (1, .int p1), (2, .int p2), (3, .int p3), (4, .int p4), (5, .int p5)]) S.1 S.2.1 dX12_caught_113 hl (by decide) rfl (fun ls hl => ?_)
                  refine lv_aload_n S.1 S.2.1 dX12_caught_115 rfl (lv_at hl 1 rfl) ?_
                  refine lv_iload_n S.1 S.2.1 dX12_caught_116 rfl (lv_at hl 2 rfl) ?_
                  refine lv_iload_n S.1 S.2.1 dX12_caught_117 rfl (lv_at hl 3 rfl) ?_
                  refine lv_iload_n S.1 S.2.1 dX12_caught_118 rfl (lv_at hl 4 rfl) ?_
                  obtain ⟨v34, hc33, h⟩ := d_b h
                  refine dri (va_runV (As := [.int p1, .int p2, .int p3]) (rest := []) S (kX12_xAt l g hc33) (cwV 3 S.2.2.2.2 gX12_caught_X12_xAt rfl rfl rfl ynX12_xAt ⟨Nat.le_of_ble_eq_true rfl, Nat.le_of_ble_eq_true rfl⟩) (dpV hE hP hS (ci := 12) rfl (dat13 k0)) rfl rfl hl.1 rfl (lv_room (Nat.le_of_ble_eq_true rfl)) dX12_caught_119 ⟨Nat.le_of_ble_eq_true rfl, Nat.le_of_ble_eq_true rfl⟩) hS (fun H locs hP hS => ?_)
                  refine lv_iload S.1 S.2.1 dX12_caught_122 (lv_at hl 6 rfl) ?_
                  refine lv_iload S.1 S.2.1 dX12_caught_124 (lv_at hl 5 rfl) ?_
                  refine lv_imul S.1 S.2.1 dX12_caught_126 ?_
                  refine lv_iadd S.1 S.2.1 dX12_caught_127 ?_
                  refine lv_aload_n S.1 S.2.1 dX12_caught_128 rfl (lv_at hl 1 rfl) ?_
                  refine lv_iload_n S.1 S.2.1 dX12_caught_129 rfl (lv_at hl 2 rfl) ?_
                  refine lv_iload S.1 S.2.1 dX12_caught_130 (lv_at hl 0 rfl) ?_
                  refine lv_iload_n S.1 S.2.1 dX12_caught_132 rfl (lv_at hl 4 rfl) ?_
                  obtain ⟨v36, hc35, h⟩ := d_b h
                  refine dri (va_runV (As := [.int p1, .int v32, .int p3]) (rest := [.int (v34 + (p5 * p4))]) S (kX12_xAt l g hc35) (cwV 3 S.2.2.2.2 gX12_caught_X12_xAt rfl rfl rfl ynX12_xAt ⟨Nat.le_of_ble_eq_true rfl, Nat.le_of_ble_eq_true rfl⟩) (dpV hE hP hS (ci := 12) rfl (dat13 k0)) rfl rfl hl.1 rfl (lv_room (Nat.le_of_ble_eq_true rfl)) dX12_caught_133 ⟨Nat.le_of_ble_eq_true rfl, Nat.le_of_ble_eq_true rfl⟩) hS (fun H locs hP hS => ?_)
                  refine lv_isub S.1 S.2.1 dX12_caught_136 ?_
                  refine lv_topi (fun v37 ev37 => ?_)
                  have h := d_let ev37 h
                  refine lv_istore (lv' := [(7, .int v37), (6, .int v32), (0, .ref (dad g p0)), (1, .int p1), (2, .int p2), (3, .int p3), (4, .int p4), (5, .int p5)]) S.1 S.2.1 dX12_caught_137 hl (by decide) rfl (fun ls hl => ?_)
                  refine lv_aload_n S.1 S.2.1 dX12_caught_139 rfl (lv_at hl 2 rfl) ?_
                  refine lv_iload_n S.1 S.2.1 dX12_caught_140 rfl (lv_at hl 3 rfl) ?_
                  refine lv_iload_n S.1 S.2.1 dX12_caught_141 rfl (lv_at hl 4 rfl) ?_
                  refine lv_iload_n S.1 S.2.1 dX12_caught_142 rfl (lv_at hl 5 rfl) ?_
                  obtain ⟨v39, hc38, h⟩ := d_b h
                  refine dri (va_runV (As := [.int p1, .int p2, .int p3]) (rest := []) S (kX12_yAt l g hc38) (cwV 3 S.2.2.2.2 gX12_caught_X12_yAt rfl rfl rfl ynX12_yAt ⟨Nat.le_of_ble_eq_true rfl, Nat.le_of_ble_eq_true rfl⟩) (dpV hE hP hS (ci := 12) rfl (dat13 k0)) rfl rfl hl.1 rfl (lv_room (Nat.le_of_ble_eq_true rfl)) dX12_caught_143 ⟨Nat.le_of_ble_eq_true rfl, Nat.le_of_ble_eq_true rfl⟩) hS (fun H locs hP hS => ?_)
                  refine lv_aload_n S.1 S.2.1 dX12_caught_146 rfl (lv_at hl 2 rfl) ?_
                  refine lv_iload_n S.1 S.2.1 dX12_caught_147 rfl (lv_at hl 3 rfl) ?_
                  refine lv_iload S.1 S.2.1 dX12_caught_148 (lv_at hl 1 rfl) ?_
                  refine lv_iload_n S.1 S.2.1 dX12_caught_150 rfl (lv_at hl 5 rfl) ?_
                  obtain ⟨v41, hc40, h⟩ := d_b h
                  refine dri (va_runV (As := [.int p1, .int v32, .int p3]) (rest := [.int v39]) S (kX12_yAt l g hc40) (cwV 3 S.2.2.2.2 gX12_caught_X12_yAt rfl rfl rfl ynX12_yAt ⟨Nat.le_of_ble_eq_true rfl, Nat.le_of_ble_eq_true rfl⟩) (dpV hE hP hS (ci := 12) rfl (dat13 k0)) rfl rfl hl.1 rfl (lv_room (Nat.le_of_ble_eq_true rfl)) dX12_caught_151 ⟨Nat.le_of_ble_eq_true rfl, Nat.le_of_ble_eq_true rfl⟩) hS (fun H locs hP hS => ?_)
                  refine lv_isub S.1 S.2.1 dX12_caught_154 ?_
                  refine lv_topi (fun v42 ev42 => ?_)
                  have h := d_let ev42 h
                  refine lv_istore (lv' := [(8, .int v42), (7, .int v37), (6, .int v32), (0, .ref (dad g p0)), (1, .int p1), (2, .int p2), (3, .int p3), (4, .int p4), (5, .int p5)]) S.1 S.2.1 dX12_caught_155 hl (by decide) rfl (fun ls hl => ?_)
                  refine lv_iload S.1 S.2.1 dX12_caught_157 (lv_at hl 1 rfl) ?_
                  obtain ⟨v44, hc43, h⟩ := d_b h
                  refine dri (va_runS (As := [.int v37]) (rest := []) S (kX12_size l g hc43) (va_cwS 1 S.2.2.2.2 gX12_caught_X12_size rfl rfl rfl ynX12_size ⟨Nat.le_of_ble_eq_true rfl, Nat.le_of_ble_eq_true rfl⟩) (dpS hE hP hS) rfl rfl hl.1 rfl (lv_room (Nat.le_of_ble_eq_true rfl)) dX12_caught_159 ⟨Nat.le_of_ble_eq_true rfl, Nat.le_of_ble_eq_true rfl⟩) hS (fun H locs hP hS => ?_)
                  refine lv_bipush (v := 10) S.1 S.2.1 dX12_caught_162 (by decide) ?_
                  refine lv_icmp_gt (tgt := 181) S.1 S.2.1 dX12_caught_164 (by decide) (fun cq => ?_) (fun cq => ?_)
                  · have h := d_t cq h
                    refine lv_iconst (v := 0) S.1 S.2.1 dX12_caught_181 (by decide) ?_
                    obtain ⟨rfl, rfl⟩ := Prod.mk.inj (Option.some.inj h)
                    exact dti S hr hlk hE hP hS rfl dX12_caught_182
                  · have h := d_f cq h
                    refine lv_iload S.1 S.2.1 dX12_caught_167 (lv_at hl 0 rfl) ?_
                    obtain ⟨v46, hc45, h⟩ := d_b h
                    refine dri (va_runS (As := [.int v42]) (rest := []) S (kX12_size l g hc45) (va_cwS 1 S.2.2.2.2 gX12_caught_X12_size rfl rfl rfl ynX12_size ⟨Nat.le_of_ble_eq_true rfl, Nat.le_of_ble_eq_true rfl⟩) (dpS hE hP hS) rfl rfl hl.1 rfl (lv_room (Nat.le_of_ble_eq_true rfl)) dX12_caught_169 ⟨Nat.le_of_ble_eq_true rfl, Nat.le_of_ble_eq_true rfl⟩) hS (fun H locs hP hS => ?_)
                    refine lv_bipush (v := 10) S.1 S.2.1 dX12_caught_172 (by decide) ?_
                    refine lv_icmp_gt (tgt := 181) S.1 S.2.1 dX12_caught_174 (by decide) (fun cq => ?_) (fun cq => ?_)
                    · have h := d_t cq h
                      refine lv_iconst (v := 0) S.1 S.2.1 dX12_caught_181 (by decide) ?_
                      obtain ⟨rfl, rfl⟩ := Prod.mk.inj (Option.some.inj h)
                      exact dti S hr hlk hE hP hS rfl dX12_caught_182
                    · have h := d_f cq h
                      refine lv_iconst (v := 1) S.1 S.2.1 dX12_caught_177 (by decide) ?_
                      refine lv_goto (tgt := 182) S.1 S.2.1 dX12_caught_178 (by decide) ?_
                      obtain ⟨rfl, rfl⟩ := Prod.mk.inj (Option.some.inj h)
                      exact dti S hr hlk hE hP hS rfl dX12_caught_182
              · exact absurd (by decide) cq
            · have h := d_t cq h
              refine lv_iconst (v := 3) S.1 S.2.1 dX12_caught_70 (by decide) ?_
              refine lv_goto (tgt := 75) S.1 S.2.1 dX12_caught_71 (by decide) ?_
              refine dpf12_25 S in12 hE hP hS k0 (S.2.2.2.2 (.fieldLink RX12 76 "DrillFieldModel" "thrown" "I") (List.mem_of_getElem? (i := 2) rfl)) dX12_caught_75 (fun H locs hP hS => ?_)
              obtain ⟨m47, em47⟩ : ∃ z : dM, z = d1 m p0 25 3 := ⟨_, rfl⟩
              have h := d_let em47 h
              rw [← em47] at hP
              refine lv_aload_n S.1 S.2.1 dX12_caught_78 rfl (lv_at hl 0 rfl) ?_
              refine dgf12_25 S in12 hE hP k0 (S.2.2.2.2 (.fieldLink RX12 76 "DrillFieldModel" "thrown" "I") (List.mem_of_getElem? (i := 2) rfl)) dX12_caught_79 ?_
              refine d_top (v := 3) (by rw [em47]; exact d1_get) ?_
              refine lv_if_le (tgt := 87) S.1 S.2.1 dX12_caught_82 (by decide) (fun cq => ?_) (fun cq => ?_)
              · exact absurd cq (by decide)
              · refine lv_iconst (v := 0) S.1 S.2.1 dX12_caught_85 (by decide) ?_
                obtain ⟨rfl, rfl⟩ := Prod.mk.inj (Option.some.inj h)
                exact dti S hr hlk hE hP hS rfl dX12_caught_86
          · have h := d_t cq h
            refine lv_iconst (v := 2) S.1 S.2.1 dX12_caught_58 (by decide) ?_
            refine lv_goto (tgt := 75) S.1 S.2.1 dX12_caught_59 (by decide) ?_
            refine dpf12_25 S in12 hE hP hS k0 (S.2.2.2.2 (.fieldLink RX12 76 "DrillFieldModel" "thrown" "I") (List.mem_of_getElem? (i := 2) rfl)) dX12_caught_75 (fun H locs hP hS => ?_)
            obtain ⟨m48, em48⟩ : ∃ z : dM, z = d1 m p0 25 2 := ⟨_, rfl⟩
            have h := d_let em48 h
            rw [← em48] at hP
            refine lv_aload_n S.1 S.2.1 dX12_caught_78 rfl (lv_at hl 0 rfl) ?_
            refine dgf12_25 S in12 hE hP k0 (S.2.2.2.2 (.fieldLink RX12 76 "DrillFieldModel" "thrown" "I") (List.mem_of_getElem? (i := 2) rfl)) dX12_caught_79 ?_
            refine d_top (v := 2) (by rw [em48]; exact d1_get) ?_
            refine lv_if_le (tgt := 87) S.1 S.2.1 dX12_caught_82 (by decide) (fun cq => ?_) (fun cq => ?_)
            · exact absurd cq (by decide)
            · refine lv_iconst (v := 0) S.1 S.2.1 dX12_caught_85 (by decide) ?_
              obtain ⟨rfl, rfl⟩ := Prod.mk.inj (Option.some.inj h)
              exact dti S hr hlk hE hP hS rfl dX12_caught_86
    · have h := d_t cq h
      refine lv_iconst (v := 1) S.1 S.2.1 dX12_caught_17 (by decide) ?_
      refine lv_goto (tgt := 75) S.1 S.2.1 dX12_caught_18 (by decide) ?_
      refine dpf12_25 S in12 hE hP hS k0 (S.2.2.2.2 (.fieldLink RX12 76 "DrillFieldModel" "thrown" "I") (List.mem_of_getElem? (i := 2) rfl)) dX12_caught_75 (fun H locs hP hS => ?_)
      obtain ⟨m49, em49⟩ : ∃ z : dM, z = d1 m p0 25 1 := ⟨_, rfl⟩
      have h := d_let em49 h
      rw [← em49] at hP
      refine lv_aload_n S.1 S.2.1 dX12_caught_78 rfl (lv_at hl 0 rfl) ?_
      refine dgf12_25 S in12 hE hP k0 (S.2.2.2.2 (.fieldLink RX12 76 "DrillFieldModel" "thrown" "I") (List.mem_of_getElem? (i := 2) rfl)) dX12_caught_79 ?_
      refine d_top (v := 1) (by rw [em49]; exact d1_get) ?_
      refine lv_if_le (tgt := 87) S.1 S.2.1 dX12_caught_82 (by decide) (fun cq => ?_) (fun cq => ?_)
      · exact absurd cq (by decide)
      · refine lv_iconst (v := 0) S.1 S.2.1 dX12_caught_85 (by decide) ?_
        obtain ⟨rfl, rfl⟩ := Prod.mk.inj (Option.some.inj h)
        exact dti S hr hlk hE hP hS rfl dX12_caught_86
set_option maxRecDepth 20000 in
theorem ggX12_isSet_X12_isIn : GoodIn wsX12_isSet wsX12_isIn := goodIn_r _ [5] (by decide +kernel) (by decide +kernel)
set_option maxRecDepth 20000 in
theorem gX12_isSet_X12_isIn : GoodIn wsX12_isSet (va_wsS RX12 79 yX12_isIn wsX12_isIn) := goodIn_app (goodIn_of _ (by decide +kernel)) ggX12_isSet_X12_isIn
theorem dX12_isSet_0 : decode cX12_isSet 0 = .ok (.iload_n 1, 1) := by decide +kernel
theorem dX12_isSet_1 : decode cX12_isSet 1 = .ok (.iconst 0, 1) := by decide +kernel
theorem dX12_isSet_2 : decode cX12_isSet 2 = .ok (.aload_n 0, 1) := by decide +kernel
theorem dX12_isSet_3 : decode cX12_isSet 3 = .ok (.getfield 86, 3) := by decide +kernel
theorem dX12_isSet_6 : decode cX12_isSet 6 = .ok (.iconst 1, 1) := by decide +kernel
theorem dX12_isSet_7 : decode cX12_isSet 7 = .ok (.isub, 1) := by decide +kernel
theorem dX12_isSet_8 : decode cX12_isSet 8 = .ok (.invokestatic 79, 3) := by decide +kernel
theorem dX12_isSet_11 : decode cX12_isSet 11 = .ok (.ireturn, 1) := by decide +kernel
def fX12_isSet (m : dM) (p0 : Nat) (p1 : Int32) : Option Int32 := dg (dkg p0 13) ((fX12_isIn m p1 0 ((m.1 p0 5) - 1)).bind (fun v2 => dg (dB v2) (some v2)))
set_option maxHeartbeats 4000000 in
set_option maxRecDepth 100000 in
theorem kX12_isSet (l : Launch) (g : dG) {m : dM} {p0 : Nat} {p1 : Int32} {r0 : Int32} (h : fX12_isSet m p0 p1 = some r0) : dMet l g yX12_isSet wsX12_isSet (dRm 1 22) [.ref (dad g p0), .int p1] m (dQI g r0 m) := by
  refine dof (cc := cX12_isSet) (maxL := 2) (ret := (some .boolean)) _ (plainFor_of_name (by decide)) rfl (Nat.le_of_ble_eq_true rfl) ?_
  intro p e s mth below meth c S hr hlk hE H ls hP hS hl
  have S : CallFix p mth c cX12_isSet 2 s _ wsX12_isSet RX12 := S
  have hl : lv_has ls 2 [(0, .ref (dad g p0)), (1, .int p1)] := hl
  obtain ⟨locs, hlocs⟩ : ∃ z : List Loc, z = [] := ⟨_, rfl⟩
  rw [← hlocs] at hS ⊢
  have in12 : ∀ w ∈ wsX120, w ∈ wsX12_isSet := by decide +kernel
  unfold fX12_isSet at h
  obtain ⟨k0, h⟩ := d_g h
  have k0 := d_k k0
  refine lv_iload_n S.1 S.2.1 dX12_isSet_0 rfl (lv_at hl 1 rfl) ?_
  refine lv_iconst (v := 0) S.1 S.2.1 dX12_isSet_1 (by decide) ?_
  refine lv_aload_n S.1 S.2.1 dX12_isSet_2 rfl (lv_at hl 0 rfl) ?_
  refine dgf12_5 S in12 hE hP k0 (S.2.2.2.2 (.fieldLink RX12 86 "DrillFieldModel" "sets" "I") (List.mem_of_getElem? (i := 1) rfl)) dX12_isSet_3 ?_
  refine lv_iconst (v := 1) S.1 S.2.1 dX12_isSet_6 (by decide) ?_
  refine lv_isub S.1 S.2.1 dX12_isSet_7 ?_
  obtain ⟨v2, hc1, h⟩ := d_b h
  refine dri (va_runS (As := [.int p1, .int 0, .int ((m.1 p0 5) - 1)]) (rest := []) S (kX12_isIn l g hc1) (va_cwS 3 S.2.2.2.2 gX12_isSet_X12_isIn rfl rfl rfl ynX12_isIn ⟨Nat.le_of_ble_eq_true rfl, Nat.le_of_ble_eq_true rfl⟩) (dpS hE hP hS) rfl rfl hl.1 rfl (lv_room (Nat.le_of_ble_eq_true rfl)) dX12_isSet_8 ⟨Nat.le_of_ble_eq_true rfl, Nat.le_of_ble_eq_true rfl⟩) hS (fun H locs hP hS => ?_)
  obtain ⟨hb, h⟩ := d_g h
  obtain rfl := Option.some.inj h
  exact dti S hr hlk hE hP hS (dB_nar2 hb) dX12_isSet_11
theorem dX12_many_0 : decode cX12_many 0 = .ok (.iconst 0, 1) := by decide +kernel
theorem dX12_many_1 : decode cX12_many 1 = .ok (.istore_n 1, 1) := by decide +kernel
theorem dX12_many_2 : decode cX12_many 2 = .ok (.iconst 0, 1) := by decide +kernel
theorem dX12_many_3 : decode cX12_many 3 = .ok (.istore_n 2, 1) := by decide +kernel
theorem dX12_many_4 : decode cX12_many 4 = .ok (.iload_n 2, 1) := by decide +kernel
theorem dX12_many_5 : decode cX12_many 5 = .ok (.bipush 10, 2) := by decide +kernel
theorem dX12_many_7 : decode cX12_many 7 = .ok (.if_icmp .ge 17, 3) := by decide +kernel
theorem dX12_many_10 : decode cX12_many 10 = .ok (.iload_n 1, 1) := by decide +kernel
theorem dX12_many_11 : decode cX12_many 11 = .ok (.iload_n 0, 1) := by decide +kernel
theorem dX12_many_12 : decode cX12_many 12 = .ok (.iload_n 2, 1) := by decide +kernel
theorem dX12_many_13 : decode cX12_many 13 = .ok (.ishr, 1) := by decide +kernel
theorem dX12_many_14 : decode cX12_many 14 = .ok (.iconst 1, 1) := by decide +kernel
theorem dX12_many_15 : decode cX12_many 15 = .ok (.iand, 1) := by decide +kernel
theorem dX12_many_16 : decode cX12_many 16 = .ok (.iadd, 1) := by decide +kernel
theorem dX12_many_17 : decode cX12_many 17 = .ok (.istore_n 1, 1) := by decide +kernel
theorem dX12_many_18 : decode cX12_many 18 = .ok (.iinc 2 1, 3) := by decide +kernel
theorem dX12_many_21 : decode cX12_many 21 = .ok (.goto (-17), 3) := by decide +kernel
theorem dX12_many_24 : decode cX12_many 24 = .ok (.iload_n 1, 1) := by decide +kernel
theorem dX12_many_25 : decode cX12_many 25 = .ok (.ireturn, 1) := by decide +kernel
def fX12_many_l4 (p0 : Int32) (v2 : Int32) (v3 : Int32) : Option ((Int32 × Int32) ⊕ Int32) := if 10 ≤ v2 then some (.inr v3) else dlet (v3 + ((p0 >>> (v2 &&& 31)) &&& 1) : Int32) (fun v6 => dlet (v2 + 1 : Int32) (fun v7 => some (.inl (v7, v6))))
def fX12_many (m : dM) (p0 : Int32) : Option Int32 := (dlp (fun q => dP2 q (fun v2 v3 => fX12_many_l4 p0 v2 v3)) dFl (0, 0)).bind (fun q => dP1 q (fun v8 => some v8))
set_option maxHeartbeats 4000000 in
set_option maxRecDepth 100000 in
theorem kX12_many (l : Launch) (g : dG) {m : dM} {p0 : Int32} {r0 : Int32} (h : fX12_many m p0 = some r0) : dMet l g yX12_many wsX12_many (dRm 0 0) [.int p0] m (dQI g r0 m) := by
  refine dof (cc := cX12_many) (maxL := 3) (ret := (some .int)) _ (plainFor_of_name (by decide)) rfl (Nat.le_of_ble_eq_true rfl) ?_
  intro p e s mth below meth c S hr hlk hE H ls hP hS hl
  have S : CallFix p mth c cX12_many 3 s _ wsX12_many RX12 := S
  have hl : lv_has ls 3 [(0, .int p0)] := hl
  obtain ⟨locs, hlocs⟩ : ∃ z : List Loc, z = [] := ⟨_, rfl⟩
  rw [← hlocs] at hS ⊢
  unfold fX12_many at h
  refine lv_iconst (v := 0) S.1 S.2.1 dX12_many_0 (by decide) ?_
  refine lv_istore_n (lv' := [(1, .int 0), (0, .int p0)]) S.1 S.2.1 dX12_many_1 rfl hl (by decide) rfl (fun ls hl => ?_)
  refine lv_iconst (v := 0) S.1 S.2.1 dX12_many_2 (by decide) ?_
  refine lv_istore_n (lv' := [(2, .int 0), (1, .int 0), (0, .int p0)]) S.1 S.2.1 dX12_many_3 rfl hl (by decide) rfl (fun ls hl => ?_)
  obtain ⟨qL1, hqL1, h⟩ := d_b h
  refine d_lp (Hd := fun q => match q with | (v2, v3) => ∀ (H : Heap) (locs : List Loc) (ls : Array Slot), va_P g.1 vwCl (dws g m) H → va_S (dA g) s.heap H locs → lv_has ls 3 [(2, .int v2), (1, .int v3), (0, .int p0)] → W p l e (headSpec wsX12_many (dRm 0 0)).room s mth (([.int p0] : List Value).toArray) below meth c H locs 0 0 (MQ below (dQI g r0 m) (([.int p0] : List Value).toArray) s 0 0 (dA g)) (F0 mth 4 ls [])) (K := fun q => (fun (v8 : _) => ∀ (H : Heap) (locs : List Loc) (ls : Array Slot), va_P g.1 vwCl (dws g m) H → va_S (dA g) s.heap H locs → lv_has ls 3 [(1, .int v8)] → W p l e (headSpec wsX12_many (dRm 0 0)).room s mth (([.int p0] : List Value).toArray) below meth c H locs 0 0 (MQ below (dQI g r0 m) (([.int p0] : List Value).toArray) s 0 0 (dA g)) (F0 mth 24 ls [])) q) ?_ dFl _ qL1 hqL1 ?_ H locs ls hP hS (lv_sub hl [0, 1, 2] rfl)
  · intro q o h hCL1 hEL1
    obtain ⟨v2, v3⟩ := q
    have h : fX12_many_l4 p0 v2 v3 = some o := h
    intro H locs ls hP hS hl
    have hP : va_P g.1 vwCl (dws g m) H := hP
    have hl : lv_has ls 3 [(2, .int v2), (1, .int v3), (0, .int p0)] := hl
    unfold fX12_many_l4 at h
    refine lv_iload_n S.1 S.2.1 dX12_many_4 rfl (lv_at hl 0 rfl) ?_
    refine lv_bipush (v := 10) S.1 S.2.1 dX12_many_5 (by decide) ?_
    refine lv_icmp_ge (tgt := 24) S.1 S.2.1 dX12_many_7 (by decide) (fun cq => ?_) (fun cq => ?_)
    · have h := d_t cq h
      obtain rfl := Option.some.inj h
      exact hEL1 _ rfl H locs ls hP hS (lv_sub hl [1] rfl)
    · have h := d_f cq h
      refine lv_iload_n S.1 S.2.1 dX12_many_10 rfl (lv_at hl 1 rfl) ?_
      refine lv_iload_n S.1 S.2.1 dX12_many_11 rfl (lv_at hl 2 rfl) ?_
      refine lv_iload_n S.1 S.2.1 dX12_many_12 rfl (lv_at hl 0 rfl) ?_
      refine lv_ishr S.1 S.2.1 dX12_many_13 ?_
      refine lv_iconst (v := 1) S.1 S.2.1 dX12_many_14 (by decide) ?_
      refine lv_iand S.1 S.2.1 dX12_many_15 ?_
      refine lv_iadd S.1 S.2.1 dX12_many_16 ?_
      refine lv_topi (fun v6 ev6 => ?_)
      have h := d_let ev6 h
      refine lv_istore_n (lv' := [(1, .int v6), (2, .int v2), (0, .int p0)]) S.1 S.2.1 dX12_many_17 rfl hl (by decide) rfl (fun ls hl => ?_)
      obtain ⟨v7, ev7⟩ : ∃ z : Int32, z = v2 + 1 := ⟨_, rfl⟩
      have h := d_let ev7 h
      refine lv_iinc (v := v7) (lv' := [(2, .int v7), (1, .int v6), (0, .int p0)]) S.1 S.2.1 dX12_many_18 hl (k := 1) rfl (by rw [ev7]; rfl) (by decide) rfl (fun ls hl => ?_)
      refine lv_goto (tgt := 4) S.1 S.2.1 dX12_many_21 (by decide) ?_
      obtain rfl := Option.some.inj h
      exact hCL1 _ rfl H locs ls hP hS (lv_sub hl [0, 1, 2] rfl)
  · obtain ⟨v8, rfl⟩ : ∃ z, z = qL1 := ⟨_, rfl⟩
    have h := d_p1 h
    intro H locs ls hP hS hl
    have hP : va_P g.1 vwCl (dws g m) H := hP
    have hl : lv_has ls 3 [(1, .int v8)] := hl
    refine lv_iload_n S.1 S.2.1 dX12_many_24 rfl (lv_at hl 0 rfl) ?_
    obtain rfl := Option.some.inj h
    exact dti S hr hlk hE hP hS rfl dX12_many_25
theorem dX12_square_0 : decode cX12_square 0 = .ok (.iload_n 0, 1) := by decide +kernel
theorem dX12_square_1 : decode cX12_square 1 = .ok (.i2l, 1) := by decide +kernel
theorem dX12_square_2 : decode cX12_square 2 = .ok (.iload_n 0, 1) := by decide +kernel
theorem dX12_square_3 : decode cX12_square 3 = .ok (.i2l, 1) := by decide +kernel
theorem dX12_square_4 : decode cX12_square 4 = .ok (.lmul, 1) := by decide +kernel
theorem dX12_square_5 : decode cX12_square 5 = .ok (.iload_n 1, 1) := by decide +kernel
theorem dX12_square_6 : decode cX12_square 6 = .ok (.i2l, 1) := by decide +kernel
theorem dX12_square_7 : decode cX12_square 7 = .ok (.iload_n 1, 1) := by decide +kernel
theorem dX12_square_8 : decode cX12_square 8 = .ok (.i2l, 1) := by decide +kernel
theorem dX12_square_9 : decode cX12_square 9 = .ok (.lmul, 1) := by decide +kernel
theorem dX12_square_10 : decode cX12_square 10 = .ok (.ladd, 1) := by decide +kernel
theorem dX12_square_11 : decode cX12_square 11 = .ok (.lreturn, 1) := by decide +kernel
def fX12_square (m : dM) (p0 : Int32) (p1 : Int32) : Option Int64 := some (((Int32.toInt64 p0) * (Int32.toInt64 p0)) + ((Int32.toInt64 p1) * (Int32.toInt64 p1)))
set_option maxHeartbeats 4000000 in
set_option maxRecDepth 100000 in
theorem kX12_square (l : Launch) (g : dG) {m : dM} {p0 : Int32} {p1 : Int32} {r0 : Int64} (h : fX12_square m p0 p1 = some r0) : dMet l g yX12_square wsX12_square (dRm 0 0) [.int p0, .int p1] m (dQJ g r0 m) := by
  refine dof (cc := cX12_square) (maxL := 2) (ret := (some .long)) _ (plainFor_of_name (by decide)) rfl (Nat.le_of_ble_eq_true rfl) ?_
  intro p e s mth below meth c S hr hlk hE H ls hP hS hl
  have S : CallFix p mth c cX12_square 2 s _ wsX12_square RX12 := S
  have hl : lv_has ls 2 [(0, .int p0), (1, .int p1)] := hl
  obtain ⟨locs, hlocs⟩ : ∃ z : List Loc, z = [] := ⟨_, rfl⟩
  rw [← hlocs] at hS ⊢
  unfold fX12_square at h
  refine lv_iload_n S.1 S.2.1 dX12_square_0 rfl (lv_at hl 0 rfl) ?_
  refine lv_i2l S.1 S.2.1 dX12_square_1 rfl ?_
  refine lv_iload_n S.1 S.2.1 dX12_square_2 rfl (lv_at hl 0 rfl) ?_
  refine lv_i2l S.1 S.2.1 dX12_square_3 rfl ?_
  refine lv_lmul S.1 S.2.1 dX12_square_4 ?_
  refine lv_iload_n S.1 S.2.1 dX12_square_5 rfl (lv_at hl 1 rfl) ?_
  refine lv_i2l S.1 S.2.1 dX12_square_6 rfl ?_
  refine lv_iload_n S.1 S.2.1 dX12_square_7 rfl (lv_at hl 1 rfl) ?_
  refine lv_i2l S.1 S.2.1 dX12_square_8 rfl ?_
  refine lv_lmul S.1 S.2.1 dX12_square_9 ?_
  refine lv_ladd S.1 S.2.1 dX12_square_10 ?_
  obtain rfl := Option.some.inj h
  exact dtj S hr hlk hE hP hS dX12_square_11
set_option maxRecDepth 20000 in
theorem ggX12_way_X12_beginX : GoodIn wsX12_way wsX12_beginX := goodIn_r _ [8, 9, 10, 11, 7, 12, 1, 2, 13, 25, 26, 27, 28, 29, 30, 31, 32, 33, 34, 35, 36, 37, 38, 39, 40, 41, 42, 43, 44, 45, 46, 47, 48, 49, 50, 51, 52] (by decide +kernel) (by decide +kernel)
set_option maxRecDepth 20000 in
theorem gX12_way_X12_beginX : GoodIn wsX12_way (wsV RX12 118 RX12 yX12_beginX wsX12_beginX) := goodIn_app (goodIn_of _ (by decide +kernel)) ggX12_way_X12_beginX
set_option maxRecDepth 20000 in
theorem ggX12_way_X12_beginY : GoodIn wsX12_way wsX12_beginY := goodIn_r _ [17, 18, 19, 20, 7, 21, 3, 2, 13, 25, 26, 27, 28, 29, 30, 31, 32, 33, 34, 35, 36, 37, 38, 39, 40, 41, 42, 43, 44, 45, 46, 47, 48, 49, 50, 51, 52] (by decide +kernel) (by decide +kernel)
set_option maxRecDepth 20000 in
theorem gX12_way_X12_beginY : GoodIn wsX12_way (wsV RX12 121 RX12 yX12_beginY wsX12_beginY) := goodIn_app (goodIn_of _ (by decide +kernel)) ggX12_way_X12_beginY
set_option maxRecDepth 20000 in
theorem ggX12_way_X12_square : GoodIn wsX12_way wsX12_square := goodIn_r _ [24] (by decide +kernel) (by decide +kernel)
set_option maxRecDepth 20000 in
theorem gX12_way_X12_square : GoodIn wsX12_way (va_wsS RX12 124 yX12_square wsX12_square) := goodIn_app (goodIn_of _ (by decide +kernel)) ggX12_way_X12_square
theorem dX12_way_0 : decode cX12_way 0 = .ok (.aload_n 0, 1) := by decide +kernel
theorem dX12_way_1 : decode cX12_way 1 = .ok (.getfield 27, 3) := by decide +kernel
theorem dX12_way_4 : decode cX12_way 4 = .ok (.bipush 10, 2) := by decide +kernel
theorem dX12_way_6 : decode cX12_way 6 = .ok (.aload_n 0, 1) := by decide +kernel
theorem dX12_way_7 : decode cX12_way 7 = .ok (.getfield 33, 3) := by decide +kernel
theorem dX12_way_10 : decode cX12_way 10 = .ok (.iload_n 1, 1) := by decide +kernel
theorem dX12_way_11 : decode cX12_way 11 = .ok (.iaload, 1) := by decide +kernel
theorem dX12_way_12 : decode cX12_way 12 = .ok (.imul, 1) := by decide +kernel
theorem dX12_way_13 : decode cX12_way 13 = .ok (.iload_n 3, 1) := by decide +kernel
theorem dX12_way_14 : decode cX12_way 14 = .ok (.iadd, 1) := by decide +kernel
theorem dX12_way_15 : decode cX12_way 15 = .ok (.iaload, 1) := by decide +kernel
theorem dX12_way_16 : decode cX12_way 16 = .ok (.aload_n 0, 1) := by decide +kernel
theorem dX12_way_17 : decode cX12_way 17 = .ok (.iload_n 1, 1) := by decide +kernel
theorem dX12_way_18 : decode cX12_way 18 = .ok (.iload_n 2, 1) := by decide +kernel
theorem dX12_way_19 : decode cX12_way 19 = .ok (.invokevirtual 118, 3) := by decide +kernel
theorem dX12_way_22 : decode cX12_way 22 = .ok (.isub, 1) := by decide +kernel
theorem dX12_way_23 : decode cX12_way 23 = .ok (.aload_n 0, 1) := by decide +kernel
theorem dX12_way_24 : decode cX12_way 24 = .ok (.getfield 30, 3) := by decide +kernel
theorem dX12_way_27 : decode cX12_way 27 = .ok (.bipush 10, 2) := by decide +kernel
theorem dX12_way_29 : decode cX12_way 29 = .ok (.aload_n 0, 1) := by decide +kernel
theorem dX12_way_30 : decode cX12_way 30 = .ok (.getfield 33, 3) := by decide +kernel
theorem dX12_way_33 : decode cX12_way 33 = .ok (.iload_n 1, 1) := by decide +kernel
theorem dX12_way_34 : decode cX12_way 34 = .ok (.iaload, 1) := by decide +kernel
theorem dX12_way_35 : decode cX12_way 35 = .ok (.imul, 1) := by decide +kernel
theorem dX12_way_36 : decode cX12_way 36 = .ok (.iload_n 3, 1) := by decide +kernel
theorem dX12_way_37 : decode cX12_way 37 = .ok (.iadd, 1) := by decide +kernel
theorem dX12_way_38 : decode cX12_way 38 = .ok (.iaload, 1) := by decide +kernel
theorem dX12_way_39 : decode cX12_way 39 = .ok (.aload_n 0, 1) := by decide +kernel
theorem dX12_way_40 : decode cX12_way 40 = .ok (.iload_n 1, 1) := by decide +kernel
theorem dX12_way_41 : decode cX12_way 41 = .ok (.iload_n 2, 1) := by decide +kernel
theorem dX12_way_42 : decode cX12_way 42 = .ok (.invokevirtual 121, 3) := by decide +kernel
theorem dX12_way_45 : decode cX12_way 45 = .ok (.isub, 1) := by decide +kernel
theorem dX12_way_46 : decode cX12_way 46 = .ok (.invokestatic 124, 3) := by decide +kernel
theorem dX12_way_49 : decode cX12_way 49 = .ok (.lreturn, 1) := by decide +kernel
def fX12_way (m : dM) (p0 : Nat) (p1 : Int32) (p2 : Int32) (p3 : Int32) : Option Int64 := dg (dkg p0 13) (dg (dIx p1 (dL 451)) (dg (dIx ((10 * (m.1 451 (Int32.toNatClampNeg (p1)))) + p3) (dL 449)) ((fX12_beginX m p0 p1 p2).bind (fun v2 => dg (dIx p1 (dL 451)) (dg (dIx ((10 * (m.1 451 (Int32.toNatClampNeg (p1)))) + p3) (dL 450)) ((fX12_beginY m p0 p1 p2).bind (fun v4 => (fX12_square m ((m.1 449 (Int32.toNatClampNeg ((10 * (m.1 451 (Int32.toNatClampNeg (p1)))) + p3))) - v2) ((m.1 450 (Int32.toNatClampNeg ((10 * (m.1 451 (Int32.toNatClampNeg (p1)))) + p3))) - v4)).bind (fun v6 => some v6))))))))
set_option maxHeartbeats 4000000 in
set_option maxRecDepth 100000 in
theorem kX12_way (l : Launch) (g : dG) {m : dM} {p0 : Nat} {p1 : Int32} {p2 : Int32} {p3 : Int32} {r0 : Int64} (h : fX12_way m p0 p1 p2 p3 = some r0) : dMet l g yX12_way wsX12_way (dRm 2 44) [.ref (dad g p0), .int p1, .int p2, .int p3] m (dQJ g r0 m) := by
  refine dof (cc := cX12_way) (maxL := 4) (ret := (some .long)) _ (plainFor_of_name (by decide)) rfl (Nat.le_of_ble_eq_true rfl) ?_
  intro p e s mth below meth c S hr hlk hE H ls hP hS hl
  have S : CallFix p mth c cX12_way 4 s _ wsX12_way RX12 := S
  have hl : lv_has ls 4 [(0, .ref (dad g p0)), (1, .int p1), (2, .int p2), (3, .int p3)] := hl
  obtain ⟨locs, hlocs⟩ : ∃ z : List Loc, z = [] := ⟨_, rfl⟩
  rw [← hlocs] at hS ⊢
  have in12 : ∀ w ∈ wsX120, w ∈ wsX12_way := by decide +kernel
  unfold fX12_way at h
  obtain ⟨k0, h⟩ := d_g h
  have k0 := d_k k0
  refine lv_aload_n S.1 S.2.1 dX12_way_0 rfl (lv_at hl 0 rfl) ?_
  refine dgf12_6 S in12 hE hP k0 (S.2.2.2.2 (.fieldLink RX12 27 "DrillFieldModel" "setX" "[I") (List.mem_of_getElem? (i := 1) rfl)) dX12_way_1 ?_
  refine lv_bipush (v := 10) S.1 S.2.1 dX12_way_4 (by decide) ?_
  refine lv_aload_n S.1 S.2.1 dX12_way_6 rfl (lv_at hl 0 rfl) ?_
  refine dgf12_9 S in12 hE hP k0 (S.2.2.2.2 (.fieldLink RX12 33 "DrillFieldModel" "setOf" "[I") (List.mem_of_getElem? (i := 2) rfl)) dX12_way_7 ?_
  refine lv_iload_n S.1 S.2.1 dX12_way_10 rfl (lv_at hl 1 rfl) ?_
  obtain ⟨hi, h⟩ := d_g h
  refine d_iald S hE hP dk_451 hi dX12_way_11 ?_
  refine lv_imul S.1 S.2.1 dX12_way_12 ?_
  refine lv_iload_n S.1 S.2.1 dX12_way_13 rfl (lv_at hl 3 rfl) ?_
  refine lv_iadd S.1 S.2.1 dX12_way_14 ?_
  obtain ⟨hi, h⟩ := d_g h
  refine d_iald S hE hP dk_449 hi dX12_way_15 ?_
  refine lv_aload_n S.1 S.2.1 dX12_way_16 rfl (lv_at hl 0 rfl) ?_
  refine lv_iload_n S.1 S.2.1 dX12_way_17 rfl (lv_at hl 1 rfl) ?_
  refine lv_iload_n S.1 S.2.1 dX12_way_18 rfl (lv_at hl 2 rfl) ?_
  obtain ⟨v2, hc1, h⟩ := d_b h
  refine dri (va_runV (As := [.int p1, .int p2]) (rest := [.int (m.1 449 (Int32.toNatClampNeg ((10 * (m.1 451 (Int32.toNatClampNeg (p1)))) + p3)))]) S (kX12_beginX l g hc1) (cwV 2 S.2.2.2.2 gX12_way_X12_beginX rfl rfl rfl ynX12_beginX ⟨Nat.le_of_ble_eq_true rfl, Nat.le_of_ble_eq_true rfl⟩) (dpV hE hP hS (ci := 12) rfl (dat13 k0)) rfl rfl hl.1 rfl (lv_room (Nat.le_of_ble_eq_true rfl)) dX12_way_19 ⟨Nat.le_of_ble_eq_true rfl, Nat.le_of_ble_eq_true rfl⟩) hS (fun H locs hP hS => ?_)
  refine lv_isub S.1 S.2.1 dX12_way_22 ?_
  refine lv_aload_n S.1 S.2.1 dX12_way_23 rfl (lv_at hl 0 rfl) ?_
  refine dgf12_7 S in12 hE hP k0 (S.2.2.2.2 (.fieldLink RX12 30 "DrillFieldModel" "setY" "[I") (List.mem_of_getElem? (i := 3) rfl)) dX12_way_24 ?_
  refine lv_bipush (v := 10) S.1 S.2.1 dX12_way_27 (by decide) ?_
  refine lv_aload_n S.1 S.2.1 dX12_way_29 rfl (lv_at hl 0 rfl) ?_
  refine dgf12_9 S in12 hE hP k0 (S.2.2.2.2 (.fieldLink RX12 33 "DrillFieldModel" "setOf" "[I") (List.mem_of_getElem? (i := 2) rfl)) dX12_way_30 ?_
  refine lv_iload_n S.1 S.2.1 dX12_way_33 rfl (lv_at hl 1 rfl) ?_
  obtain ⟨hi, h⟩ := d_g h
  refine d_iald S hE hP dk_451 hi dX12_way_34 ?_
  refine lv_imul S.1 S.2.1 dX12_way_35 ?_
  refine lv_iload_n S.1 S.2.1 dX12_way_36 rfl (lv_at hl 3 rfl) ?_
  refine lv_iadd S.1 S.2.1 dX12_way_37 ?_
  obtain ⟨hi, h⟩ := d_g h
  refine d_iald S hE hP dk_450 hi dX12_way_38 ?_
  refine lv_aload_n S.1 S.2.1 dX12_way_39 rfl (lv_at hl 0 rfl) ?_
  refine lv_iload_n S.1 S.2.1 dX12_way_40 rfl (lv_at hl 1 rfl) ?_
  refine lv_iload_n S.1 S.2.1 dX12_way_41 rfl (lv_at hl 2 rfl) ?_
  obtain ⟨v4, hc3, h⟩ := d_b h
  refine dri (va_runV (As := [.int p1, .int p2]) (rest := [.int (m.1 450 (Int32.toNatClampNeg ((10 * (m.1 451 (Int32.toNatClampNeg (p1)))) + p3))), .int ((m.1 449 (Int32.toNatClampNeg ((10 * (m.1 451 (Int32.toNatClampNeg (p1)))) + p3))) - v2)]) S (kX12_beginY l g hc3) (cwV 2 S.2.2.2.2 gX12_way_X12_beginY rfl rfl rfl ynX12_beginY ⟨Nat.le_of_ble_eq_true rfl, Nat.le_of_ble_eq_true rfl⟩) (dpV hE hP hS (ci := 12) rfl (dat13 k0)) rfl rfl hl.1 rfl (lv_room (Nat.le_of_ble_eq_true rfl)) dX12_way_42 ⟨Nat.le_of_ble_eq_true rfl, Nat.le_of_ble_eq_true rfl⟩) hS (fun H locs hP hS => ?_)
  refine lv_isub S.1 S.2.1 dX12_way_45 ?_
  obtain ⟨v6, hc5, h⟩ := d_b h
  refine drj (va_runS (As := [.int ((m.1 449 (Int32.toNatClampNeg ((10 * (m.1 451 (Int32.toNatClampNeg (p1)))) + p3))) - v2), .int ((m.1 450 (Int32.toNatClampNeg ((10 * (m.1 451 (Int32.toNatClampNeg (p1)))) + p3))) - v4)]) (rest := []) S (kX12_square l g hc5) (va_cwS 2 S.2.2.2.2 gX12_way_X12_square rfl rfl rfl ynX12_square ⟨Nat.le_of_ble_eq_true rfl, Nat.le_of_ble_eq_true rfl⟩) (dpS hE hP hS) rfl rfl hl.1 rfl (lv_room (Nat.le_of_ble_eq_true rfl)) dX12_way_46 ⟨Nat.le_of_ble_eq_true rfl, Nat.le_of_ble_eq_true rfl⟩) hS (fun H locs hP hS => ?_)
  obtain rfl := Option.some.inj h
  exact dtj S hr hlk hE hP hS dX12_way_49
set_option maxRecDepth 20000 in
theorem ggX12_leastWays_X12_many : GoodIn wsX12_leastWays wsX12_many := goodIn_r _ [8] (by decide +kernel) (by decide +kernel)
set_option maxRecDepth 20000 in
theorem gX12_leastWays_X12_many : GoodIn wsX12_leastWays (va_wsS RX12 128 yX12_many wsX12_many) := goodIn_app (goodIn_of _ (by decide +kernel)) ggX12_leastWays_X12_many
set_option maxRecDepth 20000 in
theorem ggX12_leastWays_X12_way : GoodIn wsX12_leastWays wsX12_way := goodIn_r _ [12, 13, 14, 15, 16, 17, 18, 7, 19, 20, 21, 22, 23, 4, 24, 25, 26, 27, 28, 29, 30, 31, 32, 33, 34, 35, 36, 37, 38, 39, 40, 41, 42, 43, 44, 45, 46, 47, 48, 49, 50, 51, 52, 53, 54, 55, 56, 57, 58, 59, 60, 61, 62] (by decide +kernel) (by decide +kernel)
set_option maxRecDepth 20000 in
theorem gX12_leastWays_X12_way : GoodIn wsX12_leastWays (wsV RX12 134 RX12 yX12_way wsX12_way) := goodIn_app (goodIn_of _ (by decide +kernel)) ggX12_leastWays_X12_way
theorem dX12_leastWays_0 : decode cX12_leastWays 0 = .ok (.iconst 1, 1) := by decide +kernel
theorem dX12_leastWays_1 : decode cX12_leastWays 1 = .ok (.aload_n 0, 1) := by decide +kernel
theorem dX12_leastWays_2 : decode cX12_leastWays 2 = .ok (.getfield 7, 3) := by decide +kernel
theorem dX12_leastWays_5 : decode cX12_leastWays 5 = .ok (.ishl, 1) := by decide +kernel
theorem dX12_leastWays_6 : decode cX12_leastWays 6 = .ok (.iconst 1, 1) := by decide +kernel
theorem dX12_leastWays_7 : decode cX12_leastWays 7 = .ok (.isub, 1) := by decide +kernel
theorem dX12_leastWays_8 : decode cX12_leastWays 8 = .ok (.istore_n 2, 1) := by decide +kernel
theorem dX12_leastWays_9 : decode cX12_leastWays 9 = .ok (.aload_n 0, 1) := by decide +kernel
theorem dX12_leastWays_10 : decode cX12_leastWays 10 = .ok (.getfield 48, 3) := by decide +kernel
theorem dX12_leastWays_13 : decode cX12_leastWays 13 = .ok (.iload_n 2, 1) := by decide +kernel
theorem dX12_leastWays_14 : decode cX12_leastWays 14 = .ok (.lconst 0, 1) := by decide +kernel
theorem dX12_leastWays_15 : decode cX12_leastWays 15 = .ok (.lastore, 1) := by decide +kernel
theorem dX12_leastWays_16 : decode cX12_leastWays 16 = .ok (.iload_n 2, 1) := by decide +kernel
theorem dX12_leastWays_17 : decode cX12_leastWays 17 = .ok (.iconst 1, 1) := by decide +kernel
theorem dX12_leastWays_18 : decode cX12_leastWays 18 = .ok (.isub, 1) := by decide +kernel
theorem dX12_leastWays_19 : decode cX12_leastWays 19 = .ok (.istore_n 3, 1) := by decide +kernel
theorem dX12_leastWays_20 : decode cX12_leastWays 20 = .ok (.iload_n 3, 1) := by decide +kernel
theorem dX12_leastWays_21 : decode cX12_leastWays 21 = .ok (.ifCond .lt 110, 3) := by decide +kernel
theorem dX12_leastWays_24 : decode cX12_leastWays 24 = .ok (.iload_n 3, 1) := by decide +kernel
theorem dX12_leastWays_25 : decode cX12_leastWays 25 = .ok (.invokestatic 128, 3) := by decide +kernel
theorem dX12_leastWays_28 : decode cX12_leastWays 28 = .ok (.istore 4, 2) := by decide +kernel
theorem dX12_leastWays_30 : decode cX12_leastWays 30 = .ok (.aload_n 0, 1) := by decide +kernel
theorem dX12_leastWays_31 : decode cX12_leastWays 31 = .ok (.getfield 48, 3) := by decide +kernel
theorem dX12_leastWays_34 : decode cX12_leastWays 34 = .ok (.iload_n 3, 1) := by decide +kernel
theorem dX12_leastWays_35 : decode cX12_leastWays 35 = .ok (.ldc2_w 132, 3) := by decide +kernel
theorem dX12_leastWays_38 : decode cX12_leastWays 38 = .ok (.lastore, 1) := by decide +kernel
theorem dX12_leastWays_39 : decode cX12_leastWays 39 = .ok (.iconst 0, 1) := by decide +kernel
theorem dX12_leastWays_40 : decode cX12_leastWays 40 = .ok (.istore 5, 2) := by decide +kernel
theorem dX12_leastWays_42 : decode cX12_leastWays 42 = .ok (.iload 5, 2) := by decide +kernel
theorem dX12_leastWays_44 : decode cX12_leastWays 44 = .ok (.aload_n 0, 1) := by decide +kernel
theorem dX12_leastWays_45 : decode cX12_leastWays 45 = .ok (.getfield 7, 3) := by decide +kernel
theorem dX12_leastWays_48 : decode cX12_leastWays 48 = .ok (.if_icmp .ge 77, 3) := by decide +kernel
theorem dX12_leastWays_51 : decode cX12_leastWays 51 = .ok (.iload_n 3, 1) := by decide +kernel
theorem dX12_leastWays_52 : decode cX12_leastWays 52 = .ok (.iload 5, 2) := by decide +kernel
theorem dX12_leastWays_54 : decode cX12_leastWays 54 = .ok (.ishr, 1) := by decide +kernel
theorem dX12_leastWays_55 : decode cX12_leastWays 55 = .ok (.iconst 1, 1) := by decide +kernel
theorem dX12_leastWays_56 : decode cX12_leastWays 56 = .ok (.iand, 1) := by decide +kernel
theorem dX12_leastWays_57 : decode cX12_leastWays 57 = .ok (.iconst 1, 1) := by decide +kernel
theorem dX12_leastWays_58 : decode cX12_leastWays 58 = .ok (.if_icmp .ne 9, 3) := by decide +kernel
theorem dX12_leastWays_61 : decode cX12_leastWays 61 = .ok (.ldc2_w 132, 3) := by decide +kernel
theorem dX12_leastWays_64 : decode cX12_leastWays 64 = .ok (.goto 24, 3) := by decide +kernel
theorem dX12_leastWays_67 : decode cX12_leastWays 67 = .ok (.aload_n 0, 1) := by decide +kernel
theorem dX12_leastWays_68 : decode cX12_leastWays 68 = .ok (.iload_n 1, 1) := by decide +kernel
theorem dX12_leastWays_69 : decode cX12_leastWays 69 = .ok (.iload 4, 2) := by decide +kernel
theorem dX12_leastWays_71 : decode cX12_leastWays 71 = .ok (.iload 5, 2) := by decide +kernel
theorem dX12_leastWays_73 : decode cX12_leastWays 73 = .ok (.invokevirtual 134, 3) := by decide +kernel
theorem dX12_leastWays_76 : decode cX12_leastWays 76 = .ok (.aload_n 0, 1) := by decide +kernel
theorem dX12_leastWays_77 : decode cX12_leastWays 77 = .ok (.getfield 48, 3) := by decide +kernel
theorem dX12_leastWays_80 : decode cX12_leastWays 80 = .ok (.iload_n 3, 1) := by decide +kernel
theorem dX12_leastWays_81 : decode cX12_leastWays 81 = .ok (.iconst 1, 1) := by decide +kernel
theorem dX12_leastWays_82 : decode cX12_leastWays 82 = .ok (.iload 5, 2) := by decide +kernel
theorem dX12_leastWays_84 : decode cX12_leastWays 84 = .ok (.ishl, 1) := by decide +kernel
theorem dX12_leastWays_85 : decode cX12_leastWays 85 = .ok (.ior, 1) := by decide +kernel
theorem dX12_leastWays_86 : decode cX12_leastWays 86 = .ok (.laload, 1) := by decide +kernel
theorem dX12_leastWays_87 : decode cX12_leastWays 87 = .ok (.ladd, 1) := by decide +kernel
theorem dX12_leastWays_88 : decode cX12_leastWays 88 = .ok (.lstore 6, 2) := by decide +kernel
theorem dX12_leastWays_90 : decode cX12_leastWays 90 = .ok (.aload_n 0, 1) := by decide +kernel
theorem dX12_leastWays_91 : decode cX12_leastWays 91 = .ok (.getfield 48, 3) := by decide +kernel
theorem dX12_leastWays_94 : decode cX12_leastWays 94 = .ok (.iload_n 3, 1) := by decide +kernel
theorem dX12_leastWays_95 : decode cX12_leastWays 95 = .ok (.lload 6, 2) := by decide +kernel
theorem dX12_leastWays_97 : decode cX12_leastWays 97 = .ok (.aload_n 0, 1) := by decide +kernel
theorem dX12_leastWays_98 : decode cX12_leastWays 98 = .ok (.getfield 48, 3) := by decide +kernel
theorem dX12_leastWays_101 : decode cX12_leastWays 101 = .ok (.iload_n 3, 1) := by decide +kernel
theorem dX12_leastWays_102 : decode cX12_leastWays 102 = .ok (.laload, 1) := by decide +kernel
theorem dX12_leastWays_103 : decode cX12_leastWays 103 = .ok (.lcmp, 1) := by decide +kernel
theorem dX12_leastWays_104 : decode cX12_leastWays 104 = .ok (.ifCond .ge 8, 3) := by decide +kernel
theorem dX12_leastWays_107 : decode cX12_leastWays 107 = .ok (.lload 6, 2) := by decide +kernel
theorem dX12_leastWays_109 : decode cX12_leastWays 109 = .ok (.goto 9, 3) := by decide +kernel
theorem dX12_leastWays_112 : decode cX12_leastWays 112 = .ok (.aload_n 0, 1) := by decide +kernel
theorem dX12_leastWays_113 : decode cX12_leastWays 113 = .ok (.getfield 48, 3) := by decide +kernel
theorem dX12_leastWays_116 : decode cX12_leastWays 116 = .ok (.iload_n 3, 1) := by decide +kernel
theorem dX12_leastWays_117 : decode cX12_leastWays 117 = .ok (.laload, 1) := by decide +kernel
theorem dX12_leastWays_118 : decode cX12_leastWays 118 = .ok (.lastore, 1) := by decide +kernel
theorem dX12_leastWays_119 : decode cX12_leastWays 119 = .ok (.iinc 5 1, 3) := by decide +kernel
theorem dX12_leastWays_122 : decode cX12_leastWays 122 = .ok (.goto (-80), 3) := by decide +kernel
theorem dX12_leastWays_125 : decode cX12_leastWays 125 = .ok (.iinc 3 (-1), 3) := by decide +kernel
theorem dX12_leastWays_128 : decode cX12_leastWays 128 = .ok (.goto (-108), 3) := by decide +kernel
theorem dX12_leastWays_131 : decode cX12_leastWays 131 = .ok (.iconst 0, 1) := by decide +kernel
theorem dX12_leastWays_132 : decode cX12_leastWays 132 = .ok (.istore_n 3, 1) := by decide +kernel
theorem dX12_leastWays_133 : decode cX12_leastWays 133 = .ok (.iconst 0, 1) := by decide +kernel
theorem dX12_leastWays_134 : decode cX12_leastWays 134 = .ok (.istore 4, 2) := by decide +kernel
theorem dX12_leastWays_136 : decode cX12_leastWays 136 = .ok (.iload 4, 2) := by decide +kernel
theorem dX12_leastWays_138 : decode cX12_leastWays 138 = .ok (.aload_n 0, 1) := by decide +kernel
theorem dX12_leastWays_139 : decode cX12_leastWays 139 = .ok (.getfield 7, 3) := by decide +kernel
theorem dX12_leastWays_142 : decode cX12_leastWays 142 = .ok (.if_icmp .ge 113, 3) := by decide +kernel
theorem dX12_leastWays_145 : decode cX12_leastWays 145 = .ok (.iconst (-1), 1) := by decide +kernel
theorem dX12_leastWays_146 : decode cX12_leastWays 146 = .ok (.istore 5, 2) := by decide +kernel
theorem dX12_leastWays_148 : decode cX12_leastWays 148 = .ok (.aload_n 0, 1) := by decide +kernel
theorem dX12_leastWays_149 : decode cX12_leastWays 149 = .ok (.getfield 7, 3) := by decide +kernel
theorem dX12_leastWays_152 : decode cX12_leastWays 152 = .ok (.iconst 1, 1) := by decide +kernel
theorem dX12_leastWays_153 : decode cX12_leastWays 153 = .ok (.isub, 1) := by decide +kernel
theorem dX12_leastWays_154 : decode cX12_leastWays 154 = .ok (.istore 6, 2) := by decide +kernel
theorem dX12_leastWays_156 : decode cX12_leastWays 156 = .ok (.iload 6, 2) := by decide +kernel
theorem dX12_leastWays_158 : decode cX12_leastWays 158 = .ok (.ifCond .lt 70, 3) := by decide +kernel
theorem dX12_leastWays_161 : decode cX12_leastWays 161 = .ok (.iload_n 3, 1) := by decide +kernel
theorem dX12_leastWays_162 : decode cX12_leastWays 162 = .ok (.iload 6, 2) := by decide +kernel
theorem dX12_leastWays_164 : decode cX12_leastWays 164 = .ok (.ishr, 1) := by decide +kernel
theorem dX12_leastWays_165 : decode cX12_leastWays 165 = .ok (.iconst 1, 1) := by decide +kernel
theorem dX12_leastWays_166 : decode cX12_leastWays 166 = .ok (.iand, 1) := by decide +kernel
theorem dX12_leastWays_167 : decode cX12_leastWays 167 = .ok (.ifCond .ne 38, 3) := by decide +kernel
theorem dX12_leastWays_170 : decode cX12_leastWays 170 = .ok (.aload_n 0, 1) := by decide +kernel
theorem dX12_leastWays_171 : decode cX12_leastWays 171 = .ok (.iload_n 1, 1) := by decide +kernel
theorem dX12_leastWays_172 : decode cX12_leastWays 172 = .ok (.iload 4, 2) := by decide +kernel
theorem dX12_leastWays_174 : decode cX12_leastWays 174 = .ok (.iload 6, 2) := by decide +kernel
theorem dX12_leastWays_176 : decode cX12_leastWays 176 = .ok (.invokevirtual 134, 3) := by decide +kernel
theorem dX12_leastWays_179 : decode cX12_leastWays 179 = .ok (.aload_n 0, 1) := by decide +kernel
theorem dX12_leastWays_180 : decode cX12_leastWays 180 = .ok (.getfield 48, 3) := by decide +kernel
theorem dX12_leastWays_183 : decode cX12_leastWays 183 = .ok (.iload_n 3, 1) := by decide +kernel
theorem dX12_leastWays_184 : decode cX12_leastWays 184 = .ok (.iconst 1, 1) := by decide +kernel
theorem dX12_leastWays_185 : decode cX12_leastWays 185 = .ok (.iload 6, 2) := by decide +kernel
theorem dX12_leastWays_187 : decode cX12_leastWays 187 = .ok (.ishl, 1) := by decide +kernel
theorem dX12_leastWays_188 : decode cX12_leastWays 188 = .ok (.ior, 1) := by decide +kernel
theorem dX12_leastWays_189 : decode cX12_leastWays 189 = .ok (.laload, 1) := by decide +kernel
theorem dX12_leastWays_190 : decode cX12_leastWays 190 = .ok (.ladd, 1) := by decide +kernel
theorem dX12_leastWays_191 : decode cX12_leastWays 191 = .ok (.aload_n 0, 1) := by decide +kernel
theorem dX12_leastWays_192 : decode cX12_leastWays 192 = .ok (.getfield 48, 3) := by decide +kernel
theorem dX12_leastWays_195 : decode cX12_leastWays 195 = .ok (.iload_n 3, 1) := by decide +kernel
theorem dX12_leastWays_196 : decode cX12_leastWays 196 = .ok (.laload, 1) := by decide +kernel
theorem dX12_leastWays_197 : decode cX12_leastWays 197 = .ok (.lcmp, 1) := by decide +kernel
theorem dX12_leastWays_198 : decode cX12_leastWays 198 = .ok (.ifCond .ne 7, 3) := by decide +kernel
theorem dX12_leastWays_201 : decode cX12_leastWays 201 = .ok (.iconst 1, 1) := by decide +kernel
theorem dX12_leastWays_202 : decode cX12_leastWays 202 = .ok (.goto 4, 3) := by decide +kernel
theorem dX12_leastWays_205 : decode cX12_leastWays 205 = .ok (.iconst 0, 1) := by decide +kernel
theorem dX12_leastWays_206 : decode cX12_leastWays 206 = .ok (.istore 7, 2) := by decide +kernel
theorem dX12_leastWays_208 : decode cX12_leastWays 208 = .ok (.iload 7, 2) := by decide +kernel
theorem dX12_leastWays_210 : decode cX12_leastWays 210 = .ok (.ifCond .eq 8, 3) := by decide +kernel
theorem dX12_leastWays_213 : decode cX12_leastWays 213 = .ok (.iload 6, 2) := by decide +kernel
theorem dX12_leastWays_215 : decode cX12_leastWays 215 = .ok (.goto 5, 3) := by decide +kernel
theorem dX12_leastWays_218 : decode cX12_leastWays 218 = .ok (.iload 5, 2) := by decide +kernel
theorem dX12_leastWays_220 : decode cX12_leastWays 220 = .ok (.istore 5, 2) := by decide +kernel
theorem dX12_leastWays_222 : decode cX12_leastWays 222 = .ok (.iinc 6 (-1), 3) := by decide +kernel
theorem dX12_leastWays_225 : decode cX12_leastWays 225 = .ok (.goto (-69), 3) := by decide +kernel
theorem dX12_leastWays_228 : decode cX12_leastWays 228 = .ok (.aload_n 0, 1) := by decide +kernel
theorem dX12_leastWays_229 : decode cX12_leastWays 229 = .ok (.getfield 45, 3) := by decide +kernel
theorem dX12_leastWays_232 : decode cX12_leastWays 232 = .ok (.bipush 10, 2) := by decide +kernel
theorem dX12_leastWays_234 : decode cX12_leastWays 234 = .ok (.iload_n 1, 1) := by decide +kernel
theorem dX12_leastWays_235 : decode cX12_leastWays 235 = .ok (.imul, 1) := by decide +kernel
theorem dX12_leastWays_236 : decode cX12_leastWays 236 = .ok (.iload 4, 2) := by decide +kernel
theorem dX12_leastWays_238 : decode cX12_leastWays 238 = .ok (.iadd, 1) := by decide +kernel
theorem dX12_leastWays_239 : decode cX12_leastWays 239 = .ok (.iload 5, 2) := by decide +kernel
theorem dX12_leastWays_241 : decode cX12_leastWays 241 = .ok (.iastore, 1) := by decide +kernel
theorem dX12_leastWays_242 : decode cX12_leastWays 242 = .ok (.iload_n 3, 1) := by decide +kernel
theorem dX12_leastWays_243 : decode cX12_leastWays 243 = .ok (.iconst 1, 1) := by decide +kernel
theorem dX12_leastWays_244 : decode cX12_leastWays 244 = .ok (.iload 5, 2) := by decide +kernel
theorem dX12_leastWays_246 : decode cX12_leastWays 246 = .ok (.ishl, 1) := by decide +kernel
theorem dX12_leastWays_247 : decode cX12_leastWays 247 = .ok (.ior, 1) := by decide +kernel
theorem dX12_leastWays_248 : decode cX12_leastWays 248 = .ok (.istore_n 3, 1) := by decide +kernel
theorem dX12_leastWays_249 : decode cX12_leastWays 249 = .ok (.iinc 4 1, 3) := by decide +kernel
theorem dX12_leastWays_252 : decode cX12_leastWays 252 = .ok (.goto (-116), 3) := by decide +kernel
theorem dX12_leastWays_255 : decode cX12_leastWays 255 = .ok (.return_, 1) := by decide +kernel
def fX12_leastWays_l42 (p0 : Nat) (p1 : Int32) (v5 : Int32) (v38 : Int32) (v41 : Int32) (m42 : dM) : Option ((Int32 × dM) ⊕ dM) := if (m42.1 p0 0) ≤ v41 then some (.inr m42) else if ((v5 >>> (v41 &&& 31)) &&& 1) = 1 then dg (dIx v5 (dL 456)) (if 0 ≤ (lg_cmp 9000000000000000000 (m42.2 456 (Int32.toNatClampNeg (v5)))) then dg (dIx v5 (dL 456)) (dg (dIx v5 (dL 456)) (dlet (d2 m42 456 (Int32.toNatClampNeg (v5)) (m42.2 456 (Int32.toNatClampNeg (v5)))) (fun m61 => dlet (v41 + 1 : Int32) (fun v62 => some (.inl (v62, m61)))))) else dg (dIx v5 (dL 456)) (dlet (d2 m42 456 (Int32.toNatClampNeg (v5)) 9000000000000000000) (fun m63 => dlet (v41 + 1 : Int32) (fun v64 => some (.inl (v64, m63)))))) else (fX12_way m42 p0 p1 v38 v41).bind (fun v55 => dg (dIx (v5 ||| (1 <<< (v41 &&& 31))) (dL 456)) (dlet (v55 + (m42.2 456 (Int32.toNatClampNeg (v5 ||| (1 <<< (v41 &&& 31))))) : Int64) (fun v56 => dg (dIx v5 (dL 456)) (if 0 ≤ (lg_cmp v56 (m42.2 456 (Int32.toNatClampNeg (v5)))) then dg (dIx v5 (dL 456)) (dg (dIx v5 (dL 456)) (dlet (d2 m42 456 (Int32.toNatClampNeg (v5)) (m42.2 456 (Int32.toNatClampNeg (v5)))) (fun m57 => dlet (v41 + 1 : Int32) (fun v58 => some (.inl (v58, m57)))))) else dg (dIx v5 (dL 456)) (dlet (d2 m42 456 (Int32.toNatClampNeg (v5)) v56) (fun m59 => dlet (v41 + 1 : Int32) (fun v60 => some (.inl (v60, m59)))))))))
def fX12_leastWays_l20 (p0 : Nat) (p1 : Int32) (v5 : Int32) (m6 : dM) : Option ((Int32 × dM) ⊕ dM) := if v5 < 0 then some (.inr m6) else (fX12_many m6 v5).bind (fun v38 => dg (dIx v5 (dL 456)) (dlet (d2 m6 456 (Int32.toNatClampNeg (v5)) 9000000000000000000) (fun m39 => (dlp (fun q => dP2 q (fun v41 m42 => fX12_leastWays_l42 p0 p1 v5 v38 v41 m42)) dFl (0, m39)).bind (fun q => dP1 q (fun m65 => dlet (v5 + (-1) : Int32) (fun v66 => some (.inl (v66, m65))))))))
def fX12_leastWays_l156 (p0 : Nat) (p1 : Int32) (v69 : Int32) (v70 : Int32) (m71 : dM) (v92 : Int32) (v93 : Int32) : Option ((Int32 × Int32) ⊕ Int32) := if v92 < 0 then some (.inr v93) else if ((v70 >>> (v92 &&& 31)) &&& 1) = 0 then (fX12_way m71 p0 p1 v69 v92).bind (fun v101 => dg (dIx (v70 ||| (1 <<< (v92 &&& 31))) (dL 456)) (dg (dIx v70 (dL 456)) (if (lg_cmp (v101 + (m71.2 456 (Int32.toNatClampNeg (v70 ||| (1 <<< (v92 &&& 31)))))) (m71.2 456 (Int32.toNatClampNeg (v70)))) = 0 then dlet (v92 + (-1) : Int32) (fun v103 => some (.inl (v103, v92))) else dlet (v92 + (-1) : Int32) (fun v102 => some (.inl (v102, v93)))))) else dlet (v92 + (-1) : Int32) (fun v99 => some (.inl (v99, v93)))
def fX12_leastWays_l136 (p0 : Nat) (p1 : Int32) (v69 : Int32) (v70 : Int32) (m71 : dM) : Option ((Int32 × Int32 × dM) ⊕ dM) := if (m71.1 p0 0) ≤ v69 then some (.inr m71) else dlet ((m71.1 p0 0) - 1 : Int32) (fun v90 => (dlp (fun q => dP2 q (fun v92 v93 => fX12_leastWays_l156 p0 p1 v69 v70 m71 v92 v93)) dFl (v90, (-1))).bind (fun q => dP1 q (fun v104 => dg (dIx ((10 * p1) + v69) (dL 455)) (dlet (d1 m71 455 (Int32.toNatClampNeg ((10 * p1) + v69)) v104) (fun m105 => dlet (v70 ||| (1 <<< (v104 &&& 31)) : Int32) (fun v106 => dlet (v69 + 1 : Int32) (fun v107 => some (.inl (v107, v106, m105)))))))))
def fX12_leastWays (m : dM) (p0 : Nat) (p1 : Int32) : Option dM := dg (dkg p0 13) (dlet ((1 <<< ((m.1 p0 0) &&& 31)) - 1 : Int32) (fun v1 => dg (dIx v1 (dL 456)) (dlet (d2 m 456 (Int32.toNatClampNeg (v1)) 0) (fun m2 => dlet (v1 - 1 : Int32) (fun v3 => (dlp (fun q => dP2 q (fun v5 m6 => fX12_leastWays_l20 p0 p1 v5 m6)) dFl (v3, m2)).bind (fun q => dP1 q (fun m67 => (dlp (fun q => dP3 q (fun v69 v70 m71 => fX12_leastWays_l136 p0 p1 v69 v70 m71)) dFl (0, 0, m67)).bind (fun q => dP1 q (fun m108 => some m108)))))))))
set_option maxHeartbeats 4000000 in
set_option maxRecDepth 100000 in
theorem kX12_leastWays (l : Launch) (g : dG) {m : dM} {p0 : Nat} {p1 : Int32} {m0 : dM} (h : fX12_leastWays m p0 p1 = some m0) : dMet l g yX12_leastWays wsX12_leastWays (dRm 3 67) [.ref (dad g p0), .int p1] m (dQV g m0) := by
  refine dof (cc := cX12_leastWays) (maxL := 8) (ret := none) _ (plainFor_of_name (by decide)) rfl (Nat.le_of_ble_eq_true rfl) ?_
  intro p e s mth below meth c S hr hlk hE H ls hP hS hl
  have S : CallFix p mth c cX12_leastWays 8 s _ wsX12_leastWays RX12 := S
  have hl : lv_has ls 8 [(0, .ref (dad g p0)), (1, .int p1)] := hl
  obtain ⟨locs, hlocs⟩ : ∃ z : List Loc, z = [] := ⟨_, rfl⟩
  rw [← hlocs] at hS ⊢
  have in12 : ∀ w ∈ wsX120, w ∈ wsX12_leastWays := by decide +kernel
  unfold fX12_leastWays at h
  obtain ⟨k0, h⟩ := d_g h
  have k0 := d_k k0
  refine lv_iconst (v := 1) S.1 S.2.1 dX12_leastWays_0 (by decide) ?_
  refine lv_aload_n S.1 S.2.1 dX12_leastWays_1 rfl (lv_at hl 0 rfl) ?_
  refine dgf12_0 S in12 hE hP k0 (S.2.2.2.2 (.fieldLink RX12 7 "DrillFieldModel" "dots" "I") (List.mem_of_getElem? (i := 1) rfl)) dX12_leastWays_2 ?_
  refine lv_ishl S.1 S.2.1 dX12_leastWays_5 ?_
  refine lv_iconst (v := 1) S.1 S.2.1 dX12_leastWays_6 (by decide) ?_
  refine lv_isub S.1 S.2.1 dX12_leastWays_7 ?_
  refine lv_topi (fun v1 ev1 => ?_)
  have h := d_let ev1 h
  refine lv_istore_n (lv' := [(2, .int v1), (0, .ref (dad g p0)), (1, .int p1)]) S.1 S.2.1 dX12_leastWays_8 rfl hl (by decide) rfl (fun ls hl => ?_)
  refine lv_aload_n S.1 S.2.1 dX12_leastWays_9 rfl (lv_at hl 1 rfl) ?_
  refine dgf12_14 S in12 hE hP k0 (S.2.2.2.2 (.fieldLink RX12 48 "DrillFieldModel" "best" "[J") (List.mem_of_getElem? (i := 2) rfl)) dX12_leastWays_10 ?_
  refine lv_iload_n S.1 S.2.1 dX12_leastWays_13 rfl (lv_at hl 0 rfl) ?_
  refine lv_lconst (v := 0) S.1 S.2.1 dX12_leastWays_14 (by decide) ?_
  obtain ⟨hi, h⟩ := d_g h
  refine d_last S hE hP hS dk_456 hi dX12_leastWays_15 (fun H locs hP hS => ?_)
  obtain ⟨m2, em2⟩ : ∃ z : dM, z = d2 m 456 (Int32.toNatClampNeg (v1)) 0 := ⟨_, rfl⟩
  have h := d_let em2 h
  rw [← em2] at hP
  refine lv_iload_n S.1 S.2.1 dX12_leastWays_16 rfl (lv_at hl 0 rfl) ?_
  refine lv_iconst (v := 1) S.1 S.2.1 dX12_leastWays_17 (by decide) ?_
  refine lv_isub S.1 S.2.1 dX12_leastWays_18 ?_
  refine lv_topi (fun v3 ev3 => ?_)
  have h := d_let ev3 h
  refine lv_istore_n (lv' := [(3, .int v3), (2, .int v1), (0, .ref (dad g p0)), (1, .int p1)]) S.1 S.2.1 dX12_leastWays_19 rfl hl (by decide) rfl (fun ls hl => ?_)
  obtain ⟨qL4, hqL4, h⟩ := d_b h
  refine d_lp (Hd := fun q => match q with | (v5, m6) => ∀ (H : Heap) (locs : List Loc) (ls : Array Slot), va_P g.1 vwCl (dws g m6) H → va_S (dA g) s.heap H locs → lv_has ls 8 [(3, .int v5), (0, .ref (dad g p0)), (1, .int p1)] → W p l e (headSpec wsX12_leastWays (dRm 3 67)).room s mth (([.ref (dad g p0), .int p1] : List Value).toArray) below meth c H locs 0 0 (MQ below (dQV g m0) (([.ref (dad g p0), .int p1] : List Value).toArray) s 0 0 (dA g)) (F0 mth 20 ls [])) (K := fun q => (fun (m67 : _) => ∀ (H : Heap) (locs : List Loc) (ls : Array Slot), va_P g.1 vwCl (dws g m67) H → va_S (dA g) s.heap H locs → lv_has ls 8 [(0, .ref (dad g p0)), (1, .int p1)] → W p l e (headSpec wsX12_leastWays (dRm 3 67)).room s mth (([.ref (dad g p0), .int p1] : List Value).toArray) below meth c H locs 0 0 (MQ below (dQV g m0) (([.ref (dad g p0), .int p1] : List Value).toArray) s 0 0 (dA g)) (F0 mth 131 ls [])) q) ?_ dFl _ qL4 hqL4 ?_ H locs ls hP hS (lv_sub hl [0, 2, 3] rfl)
  · intro q o h hCL4 hEL4
    obtain ⟨v5, m6⟩ := q
    have h : fX12_leastWays_l20 p0 p1 v5 m6 = some o := h
    intro H locs ls hP hS hl
    have hP : va_P g.1 vwCl (dws g m6) H := hP
    have hl : lv_has ls 8 [(3, .int v5), (0, .ref (dad g p0)), (1, .int p1)] := hl
    unfold fX12_leastWays_l20 at h
    refine lv_iload_n S.1 S.2.1 dX12_leastWays_20 rfl (lv_at hl 0 rfl) ?_
    refine lv_if_lt (tgt := 131) S.1 S.2.1 dX12_leastWays_21 (by decide) (fun cq => ?_) (fun cq => ?_)
    · have h := d_t cq h
      obtain rfl := Option.some.inj h
      exact hEL4 _ rfl H locs ls hP hS (lv_sub hl [1, 2] rfl)
    · have h := d_f cq h
      refine lv_iload_n S.1 S.2.1 dX12_leastWays_24 rfl (lv_at hl 0 rfl) ?_
      obtain ⟨v38, hc37, h⟩ := d_b h
      refine dri (va_runS (As := [.int v5]) (rest := []) S (kX12_many l g hc37) (va_cwS 1 S.2.2.2.2 gX12_leastWays_X12_many rfl rfl rfl ynX12_many ⟨Nat.le_of_ble_eq_true rfl, Nat.le_of_ble_eq_true rfl⟩) (dpS hE hP hS) rfl rfl hl.1 rfl (lv_room (Nat.le_of_ble_eq_true rfl)) dX12_leastWays_25 ⟨Nat.le_of_ble_eq_true rfl, Nat.le_of_ble_eq_true rfl⟩) hS (fun H locs hP hS => ?_)
      refine lv_istore (lv' := [(4, .int v38), (3, .int v5), (0, .ref (dad g p0)), (1, .int p1)]) S.1 S.2.1 dX12_leastWays_28 hl (by decide) rfl (fun ls hl => ?_)
      refine lv_aload_n S.1 S.2.1 dX12_leastWays_30 rfl (lv_at hl 2 rfl) ?_
      refine dgf12_14 S in12 hE hP k0 (S.2.2.2.2 (.fieldLink RX12 48 "DrillFieldModel" "best" "[J") (List.mem_of_getElem? (i := 2) rfl)) dX12_leastWays_31 ?_
      refine lv_iload_n S.1 S.2.1 dX12_leastWays_34 rfl (lv_at hl 1 rfl) ?_
      refine lv_ldc2 (v := 9000000000000000000) S.1 S.2.1 S.2.2.2.1 (S.2.2.2.2 (.constantLong RX12 132 (9000000000000000000)) (List.mem_of_getElem? (i := 3) rfl)) dX12_leastWays_35 ?_
      obtain ⟨hi, h⟩ := d_g h
      refine d_last S hE hP hS dk_456 hi dX12_leastWays_38 (fun H locs hP hS => ?_)
      obtain ⟨m39, em39⟩ : ∃ z : dM, z = d2 m6 456 (Int32.toNatClampNeg (v5)) 9000000000000000000 := ⟨_, rfl⟩
      have h := d_let em39 h
      rw [← em39] at hP
      refine lv_iconst (v := 0) S.1 S.2.1 dX12_leastWays_39 (by decide) ?_
      refine lv_istore (lv' := [(5, .int 0), (4, .int v38), (3, .int v5), (0, .ref (dad g p0)), (1, .int p1)]) S.1 S.2.1 dX12_leastWays_40 hl (by decide) rfl (fun ls hl => ?_)
      obtain ⟨qL40, hqL40, h⟩ := d_b h
      refine d_lp (Hd := fun q => match q with | (v41, m42) => ∀ (H : Heap) (locs : List Loc) (ls : Array Slot), va_P g.1 vwCl (dws g m42) H → va_S (dA g) s.heap H locs → lv_has ls 8 [(5, .int v41), (4, .int v38), (3, .int v5), (0, .ref (dad g p0)), (1, .int p1)] → W p l e (headSpec wsX12_leastWays (dRm 3 67)).room s mth (([.ref (dad g p0), .int p1] : List Value).toArray) below meth c H locs 0 0 (MQ below (dQV g m0) (([.ref (dad g p0), .int p1] : List Value).toArray) s 0 0 (dA g)) (F0 mth 42 ls [])) (K := fun q => (fun (m65 : _) => ∀ (H : Heap) (locs : List Loc) (ls : Array Slot), va_P g.1 vwCl (dws g m65) H → va_S (dA g) s.heap H locs → lv_has ls 8 [(0, .ref (dad g p0)), (1, .int p1), (3, .int v5)] → W p l e (headSpec wsX12_leastWays (dRm 3 67)).room s mth (([.ref (dad g p0), .int p1] : List Value).toArray) below meth c H locs 0 0 (MQ below (dQV g m0) (([.ref (dad g p0), .int p1] : List Value).toArray) s 0 0 (dA g)) (F0 mth 125 ls [])) q) ?_ dFl _ qL40 hqL40 ?_ H locs ls hP hS (lv_sub hl [0, 1, 2, 3, 4] rfl)
      · intro q o h hCL40 hEL40
        obtain ⟨v41, m42⟩ := q
        have h : fX12_leastWays_l42 p0 p1 v5 v38 v41 m42 = some o := h
        intro H locs ls hP hS hl
        have hP : va_P g.1 vwCl (dws g m42) H := hP
        have hl : lv_has ls 8 [(5, .int v41), (4, .int v38), (3, .int v5), (0, .ref (dad g p0)), (1, .int p1)] := hl
        unfold fX12_leastWays_l42 at h
        refine lv_iload S.1 S.2.1 dX12_leastWays_42 (lv_at hl 0 rfl) ?_
        refine lv_aload_n S.1 S.2.1 dX12_leastWays_44 rfl (lv_at hl 3 rfl) ?_
        refine dgf12_0 S in12 hE hP k0 (S.2.2.2.2 (.fieldLink RX12 7 "DrillFieldModel" "dots" "I") (List.mem_of_getElem? (i := 1) rfl)) dX12_leastWays_45 ?_
        refine lv_icmp_ge (tgt := 125) S.1 S.2.1 dX12_leastWays_48 (by decide) (fun cq => ?_) (fun cq => ?_)
        · have h := d_t cq h
          obtain rfl := Option.some.inj h
          exact hEL40 _ rfl H locs ls hP hS (lv_sub hl [3, 4, 2] rfl)
        · have h := d_f cq h
          refine lv_iload_n S.1 S.2.1 dX12_leastWays_51 rfl (lv_at hl 2 rfl) ?_
          refine lv_iload S.1 S.2.1 dX12_leastWays_52 (lv_at hl 0 rfl) ?_
          refine lv_ishr S.1 S.2.1 dX12_leastWays_54 ?_
          refine lv_iconst (v := 1) S.1 S.2.1 dX12_leastWays_55 (by decide) ?_
          refine lv_iand S.1 S.2.1 dX12_leastWays_56 ?_
          refine lv_iconst (v := 1) S.1 S.2.1 dX12_leastWays_57 (by decide) ?_
          refine lv_icmp_ne (tgt := 67) S.1 S.2.1 dX12_leastWays_58 (by decide) (fun cq => ?_) (fun cq => ?_)
          · have h := d_f cq h
            refine lv_aload_n S.1 S.2.1 dX12_leastWays_67 rfl (lv_at hl 3 rfl) ?_
            refine lv_iload_n S.1 S.2.1 dX12_leastWays_68 rfl (lv_at hl 4 rfl) ?_
            refine lv_iload S.1 S.2.1 dX12_leastWays_69 (lv_at hl 1 rfl) ?_
            refine lv_iload S.1 S.2.1 dX12_leastWays_71 (lv_at hl 0 rfl) ?_
            obtain ⟨v55, hc54, h⟩ := d_b h
            refine drj (va_runV (As := [.int p1, .int v38, .int v41]) (rest := []) S (kX12_way l g hc54) (cwV 3 S.2.2.2.2 gX12_leastWays_X12_way rfl rfl rfl ynX12_way ⟨Nat.le_of_ble_eq_true rfl, Nat.le_of_ble_eq_true rfl⟩) (dpV hE hP hS (ci := 12) rfl (dat13 k0)) rfl rfl hl.1 rfl (lv_room (Nat.le_of_ble_eq_true rfl)) dX12_leastWays_73 ⟨Nat.le_of_ble_eq_true rfl, Nat.le_of_ble_eq_true rfl⟩) hS (fun H locs hP hS => ?_)
            refine lv_aload_n S.1 S.2.1 dX12_leastWays_76 rfl (lv_at hl 3 rfl) ?_
            refine dgf12_14 S in12 hE hP k0 (S.2.2.2.2 (.fieldLink RX12 48 "DrillFieldModel" "best" "[J") (List.mem_of_getElem? (i := 2) rfl)) dX12_leastWays_77 ?_
            refine lv_iload_n S.1 S.2.1 dX12_leastWays_80 rfl (lv_at hl 2 rfl) ?_
            refine lv_iconst (v := 1) S.1 S.2.1 dX12_leastWays_81 (by decide) ?_
            refine lv_iload S.1 S.2.1 dX12_leastWays_82 (lv_at hl 0 rfl) ?_
            refine lv_ishl S.1 S.2.1 dX12_leastWays_84 ?_
            refine lv_ior S.1 S.2.1 dX12_leastWays_85 ?_
            obtain ⟨hi, h⟩ := d_g h
            refine d_lald S hE hP dk_456 hi dX12_leastWays_86 ?_
            refine lv_ladd S.1 S.2.1 dX12_leastWays_87 ?_
            refine lv_topl (fun v56 ev56 => ?_)
            have h := d_let ev56 h
            refine lv_lstore (lv' := [(6, .long v56), (5, .int v41), (4, .int v38), (3, .int v5), (0, .ref (dad g p0)), (1, .int p1)]) S.1 S.2.1 dX12_leastWays_88 hl (by decide) rfl (fun ls hl => ?_)
            refine lv_aload_n S.1 S.2.1 dX12_leastWays_90 rfl (lv_at hl 4 rfl) ?_
            refine dgf12_14 S in12 hE hP k0 (S.2.2.2.2 (.fieldLink RX12 48 "DrillFieldModel" "best" "[J") (List.mem_of_getElem? (i := 2) rfl)) dX12_leastWays_91 ?_
            refine lv_iload_n S.1 S.2.1 dX12_leastWays_94 rfl (lv_at hl 3 rfl) ?_
            refine lv_lload S.1 S.2.1 dX12_leastWays_95 (lv_at hl 0 rfl) ?_
            refine lv_aload_n S.1 S.2.1 dX12_leastWays_97 rfl (lv_at hl 4 rfl) ?_
            refine dgf12_14 S in12 hE hP k0 (S.2.2.2.2 (.fieldLink RX12 48 "DrillFieldModel" "best" "[J") (List.mem_of_getElem? (i := 2) rfl)) dX12_leastWays_98 ?_
            refine lv_iload_n S.1 S.2.1 dX12_leastWays_101 rfl (lv_at hl 3 rfl) ?_
            obtain ⟨hi, h⟩ := d_g h
            refine d_lald S hE hP dk_456 hi dX12_leastWays_102 ?_
            refine W.lcmp S.1 S.2.1 dX12_leastWays_103 ?_
            refine lv_if_ge (tgt := 112) S.1 S.2.1 dX12_leastWays_104 (by decide) (fun cq => ?_) (fun cq => ?_)
            · have h := d_t cq h
              refine lv_aload_n S.1 S.2.1 dX12_leastWays_112 rfl (lv_at hl 4 rfl) ?_
              refine dgf12_14 S in12 hE hP k0 (S.2.2.2.2 (.fieldLink RX12 48 "DrillFieldModel" "best" "[J") (List.mem_of_getElem? (i := 2) rfl)) dX12_leastWays_113 ?_
              refine lv_iload_n S.1 S.2.1 dX12_leastWays_116 rfl (lv_at hl 3 rfl) ?_
              obtain ⟨hi, h⟩ := d_g h
              refine d_lald S hE hP dk_456 hi dX12_leastWays_117 ?_
              obtain ⟨hi, h⟩ := d_g h
              refine d_last S hE hP hS dk_456 hi dX12_leastWays_118 (fun H locs hP hS => ?_)
              obtain ⟨m57, em57⟩ : ∃ z : dM, z = d2 m42 456 (Int32.toNatClampNeg (v5)) (m42.2 456 (Int32.toNatClampNeg (v5))) := ⟨_, rfl⟩
              have h := d_let em57 h
              rw [← em57] at hP
              obtain ⟨v58, ev58⟩ : ∃ z : Int32, z = v41 + 1 := ⟨_, rfl⟩
              have h := d_let ev58 h
              refine lv_iinc (v := v58) (lv' := [(5, .int v58), (6, .long v56), (4, .int v38), (3, .int v5), (0, .ref (dad g p0)), (1, .int p1)]) S.1 S.2.1 dX12_leastWays_119 hl (k := 1) rfl (by rw [ev58]; rfl) (by decide) rfl (fun ls hl => ?_)
              refine lv_goto (tgt := 42) S.1 S.2.1 dX12_leastWays_122 (by decide) ?_
              obtain rfl := Option.some.inj h
              exact hCL40 _ rfl H locs ls hP hS (lv_sub hl [0, 2, 3, 4, 5] rfl)
            · have h := d_f cq h
              refine lv_lload S.1 S.2.1 dX12_leastWays_107 (lv_at hl 0 rfl) ?_
              refine lv_goto (tgt := 118) S.1 S.2.1 dX12_leastWays_109 (by decide) ?_
              obtain ⟨hi, h⟩ := d_g h
              refine d_last S hE hP hS dk_456 hi dX12_leastWays_118 (fun H locs hP hS => ?_)
              obtain ⟨m59, em59⟩ : ∃ z : dM, z = d2 m42 456 (Int32.toNatClampNeg (v5)) v56 := ⟨_, rfl⟩
              have h := d_let em59 h
              rw [← em59] at hP
              obtain ⟨v60, ev60⟩ : ∃ z : Int32, z = v41 + 1 := ⟨_, rfl⟩
              have h := d_let ev60 h
              refine lv_iinc (v := v60) (lv' := [(5, .int v60), (6, .long v56), (4, .int v38), (3, .int v5), (0, .ref (dad g p0)), (1, .int p1)]) S.1 S.2.1 dX12_leastWays_119 hl (k := 1) rfl (by rw [ev60]; rfl) (by decide) rfl (fun ls hl => ?_)
              refine lv_goto (tgt := 42) S.1 S.2.1 dX12_leastWays_122 (by decide) ?_
              obtain rfl := Option.some.inj h
              exact hCL40 _ rfl H locs ls hP hS (lv_sub hl [0, 2, 3, 4, 5] rfl)
          · have h := d_t cq h
            refine lv_ldc2 (v := 9000000000000000000) S.1 S.2.1 S.2.2.2.1 (S.2.2.2.2 (.constantLong RX12 132 (9000000000000000000)) (List.mem_of_getElem? (i := 3) rfl)) dX12_leastWays_61 ?_
            refine lv_goto (tgt := 88) S.1 S.2.1 dX12_leastWays_64 (by decide) ?_
            refine lv_lstore (lv' := [(6, .long 9000000000000000000), (5, .int v41), (4, .int v38), (3, .int v5), (0, .ref (dad g p0)), (1, .int p1)]) S.1 S.2.1 dX12_leastWays_88 hl (by decide) rfl (fun ls hl => ?_)
            refine lv_aload_n S.1 S.2.1 dX12_leastWays_90 rfl (lv_at hl 4 rfl) ?_
            refine dgf12_14 S in12 hE hP k0 (S.2.2.2.2 (.fieldLink RX12 48 "DrillFieldModel" "best" "[J") (List.mem_of_getElem? (i := 2) rfl)) dX12_leastWays_91 ?_
            refine lv_iload_n S.1 S.2.1 dX12_leastWays_94 rfl (lv_at hl 3 rfl) ?_
            refine lv_lload S.1 S.2.1 dX12_leastWays_95 (lv_at hl 0 rfl) ?_
            refine lv_aload_n S.1 S.2.1 dX12_leastWays_97 rfl (lv_at hl 4 rfl) ?_
            refine dgf12_14 S in12 hE hP k0 (S.2.2.2.2 (.fieldLink RX12 48 "DrillFieldModel" "best" "[J") (List.mem_of_getElem? (i := 2) rfl)) dX12_leastWays_98 ?_
            refine lv_iload_n S.1 S.2.1 dX12_leastWays_101 rfl (lv_at hl 3 rfl) ?_
            obtain ⟨hi, h⟩ := d_g h
            refine d_lald S hE hP dk_456 hi dX12_leastWays_102 ?_
            refine W.lcmp S.1 S.2.1 dX12_leastWays_103 ?_
            refine lv_if_ge (tgt := 112) S.1 S.2.1 dX12_leastWays_104 (by decide) (fun cq => ?_) (fun cq => ?_)
            · have h := d_t cq h
              refine lv_aload_n S.1 S.2.1 dX12_leastWays_112 rfl (lv_at hl 4 rfl) ?_
              refine dgf12_14 S in12 hE hP k0 (S.2.2.2.2 (.fieldLink RX12 48 "DrillFieldModel" "best" "[J") (List.mem_of_getElem? (i := 2) rfl)) dX12_leastWays_113 ?_
              refine lv_iload_n S.1 S.2.1 dX12_leastWays_116 rfl (lv_at hl 3 rfl) ?_
              obtain ⟨hi, h⟩ := d_g h
              refine d_lald S hE hP dk_456 hi dX12_leastWays_117 ?_
              obtain ⟨hi, h⟩ := d_g h
              refine d_last S hE hP hS dk_456 hi dX12_leastWays_118 (fun H locs hP hS => ?_)
              obtain ⟨m61, em61⟩ : ∃ z : dM, z = d2 m42 456 (Int32.toNatClampNeg (v5)) (m42.2 456 (Int32.toNatClampNeg (v5))) := ⟨_, rfl⟩
              have h := d_let em61 h
              rw [← em61] at hP
              obtain ⟨v62, ev62⟩ : ∃ z : Int32, z = v41 + 1 := ⟨_, rfl⟩
              have h := d_let ev62 h
              refine lv_iinc (v := v62) (lv' := [(5, .int v62), (6, .long 9000000000000000000), (4, .int v38), (3, .int v5), (0, .ref (dad g p0)), (1, .int p1)]) S.1 S.2.1 dX12_leastWays_119 hl (k := 1) rfl (by rw [ev62]; rfl) (by decide) rfl (fun ls hl => ?_)
              refine lv_goto (tgt := 42) S.1 S.2.1 dX12_leastWays_122 (by decide) ?_
              obtain rfl := Option.some.inj h
              exact hCL40 _ rfl H locs ls hP hS (lv_sub hl [0, 2, 3, 4, 5] rfl)
            · have h := d_f cq h
              refine lv_lload S.1 S.2.1 dX12_leastWays_107 (lv_at hl 0 rfl) ?_
              refine lv_goto (tgt := 118) S.1 S.2.1 dX12_leastWays_109 (by decide) ?_
              obtain ⟨hi, h⟩ := d_g h
              refine d_last S hE hP hS dk_456 hi dX12_leastWays_118 (fun H locs hP hS => ?_)
              obtain ⟨m63, em63⟩ : ∃ z : dM, z = d2 m42 456 (Int32.toNatClampNeg (v5)) 9000000000000000000 := ⟨_, rfl⟩
              have h := d_let em63 h
              rw [← em63] at hP
              obtain ⟨v64, ev64⟩ : ∃ z : Int32, z = v41 + 1 := ⟨_, rfl⟩
              have h := d_let ev64 h
              refine lv_iinc (v := v64) (lv' := [(5, .int v64), (6, .long 9000000000000000000), (4, .int v38), (3, .int v5), (0, .ref (dad g p0)), (1, .int p1)]) S.1 S.2.1 dX12_leastWays_119 hl (k := 1) rfl (by rw [ev64]; rfl) (by decide) rfl (fun ls hl => ?_)
              refine lv_goto (tgt := 42) S.1 S.2.1 dX12_leastWays_122 (by decide) ?_
              obtain rfl := Option.some.inj h
              exact hCL40 _ rfl H locs ls hP hS (lv_sub hl [0, 2, 3, 4, 5] rfl)
      · obtain ⟨m65, rfl⟩ : ∃ z, z = qL40 := ⟨_, rfl⟩
        have h := d_p1 h
        intro H locs ls hP hS hl
        have hP : va_P g.1 vwCl (dws g m65) H := hP
        have hl : lv_has ls 8 [(0, .ref (dad g p0)), (1, .int p1), (3, .int v5)] := hl
        obtain ⟨v66, ev66⟩ : ∃ z : Int32, z = v5 + (-1) := ⟨_, rfl⟩
        have h := d_let ev66 h
        refine lv_iinc (v := v66) (lv' := [(3, .int v66), (0, .ref (dad g p0)), (1, .int p1)]) S.1 S.2.1 dX12_leastWays_125 hl (k := 2) rfl (by rw [ev66]; rfl) (by decide) rfl (fun ls hl => ?_)
        refine lv_goto (tgt := 20) S.1 S.2.1 dX12_leastWays_128 (by decide) ?_
        obtain rfl := Option.some.inj h
        exact hCL4 _ rfl H locs ls hP hS (lv_sub hl [0, 1, 2] rfl)
  · obtain ⟨m67, rfl⟩ : ∃ z, z = qL4 := ⟨_, rfl⟩
    have h := d_p1 h
    intro H locs ls hP hS hl
    have hP : va_P g.1 vwCl (dws g m67) H := hP
    have hl : lv_has ls 8 [(0, .ref (dad g p0)), (1, .int p1)] := hl
    refine lv_iconst (v := 0) S.1 S.2.1 dX12_leastWays_131 (by decide) ?_
    refine lv_istore_n (lv' := [(3, .int 0), (0, .ref (dad g p0)), (1, .int p1)]) S.1 S.2.1 dX12_leastWays_132 rfl hl (by decide) rfl (fun ls hl => ?_)
    refine lv_iconst (v := 0) S.1 S.2.1 dX12_leastWays_133 (by decide) ?_
    refine lv_istore (lv' := [(4, .int 0), (3, .int 0), (0, .ref (dad g p0)), (1, .int p1)]) S.1 S.2.1 dX12_leastWays_134 hl (by decide) rfl (fun ls hl => ?_)
    obtain ⟨qL68, hqL68, h⟩ := d_b h
    refine d_lp (Hd := fun q => match q with | (v69, v70, m71) => ∀ (H : Heap) (locs : List Loc) (ls : Array Slot), va_P g.1 vwCl (dws g m71) H → va_S (dA g) s.heap H locs → lv_has ls 8 [(4, .int v69), (3, .int v70), (0, .ref (dad g p0)), (1, .int p1)] → W p l e (headSpec wsX12_leastWays (dRm 3 67)).room s mth (([.ref (dad g p0), .int p1] : List Value).toArray) below meth c H locs 0 0 (MQ below (dQV g m0) (([.ref (dad g p0), .int p1] : List Value).toArray) s 0 0 (dA g)) (F0 mth 136 ls [])) (K := fun q => (fun (m108 : _) => ∀ (H : Heap) (locs : List Loc) (ls : Array Slot), va_P g.1 vwCl (dws g m108) H → va_S (dA g) s.heap H locs → lv_has ls 8 [] → W p l e (headSpec wsX12_leastWays (dRm 3 67)).room s mth (([.ref (dad g p0), .int p1] : List Value).toArray) below meth c H locs 0 0 (MQ below (dQV g m0) (([.ref (dad g p0), .int p1] : List Value).toArray) s 0 0 (dA g)) (F0 mth 255 ls [])) q) ?_ dFl _ qL68 hqL68 ?_ H locs ls hP hS (lv_sub hl [0, 1, 2, 3] rfl)
    · intro q o h hCL68 hEL68
      obtain ⟨v69, v70, m71⟩ := q
      have h : fX12_leastWays_l136 p0 p1 v69 v70 m71 = some o := h
      intro H locs ls hP hS hl
      have hP : va_P g.1 vwCl (dws g m71) H := hP
      have hl : lv_has ls 8 [(4, .int v69), (3, .int v70), (0, .ref (dad g p0)), (1, .int p1)] := hl
      unfold fX12_leastWays_l136 at h
      refine lv_iload S.1 S.2.1 dX12_leastWays_136 (lv_at hl 0 rfl) ?_
      refine lv_aload_n S.1 S.2.1 dX12_leastWays_138 rfl (lv_at hl 2 rfl) ?_
      refine dgf12_0 S in12 hE hP k0 (S.2.2.2.2 (.fieldLink RX12 7 "DrillFieldModel" "dots" "I") (List.mem_of_getElem? (i := 1) rfl)) dX12_leastWays_139 ?_
      refine lv_icmp_ge (tgt := 255) S.1 S.2.1 dX12_leastWays_142 (by decide) (fun cq => ?_) (fun cq => ?_)
      · have h := d_t cq h
        obtain rfl := Option.some.inj h
        exact hEL68 _ rfl H locs ls hP hS (lv_sub hl [] rfl)
      · have h := d_f cq h
        refine lv_iconst (v := (-1)) S.1 S.2.1 dX12_leastWays_145 (by decide) ?_
        refine lv_istore (lv' := [(5, .int (-1)), (4, .int v69), (3, .int v70), (0, .ref (dad g p0)), (1, .int p1)]) S.1 S.2.1 dX12_leastWays_146 hl (by decide) rfl (fun ls hl => ?_)
        refine lv_aload_n S.1 S.2.1 dX12_leastWays_148 rfl (lv_at hl 3 rfl) ?_
        refine dgf12_0 S in12 hE hP k0 (S.2.2.2.2 (.fieldLink RX12 7 "DrillFieldModel" "dots" "I") (List.mem_of_getElem? (i := 1) rfl)) dX12_leastWays_149 ?_
        refine lv_iconst (v := 1) S.1 S.2.1 dX12_leastWays_152 (by decide) ?_
        refine lv_isub S.1 S.2.1 dX12_leastWays_153 ?_
        refine lv_topi (fun v90 ev90 => ?_)
        have h := d_let ev90 h
        refine lv_istore (lv' := [(6, .int v90), (5, .int (-1)), (4, .int v69), (3, .int v70), (0, .ref (dad g p0)), (1, .int p1)]) S.1 S.2.1 dX12_leastWays_154 hl (by decide) rfl (fun ls hl => ?_)
        obtain ⟨qL91, hqL91, h⟩ := d_b h
        refine d_lp (Hd := fun q => match q with | (v92, v93) => ∀ (H : Heap) (locs : List Loc) (ls : Array Slot), va_P g.1 vwCl (dws g m71) H → va_S (dA g) s.heap H locs → lv_has ls 8 [(6, .int v92), (5, .int v93), (4, .int v69), (3, .int v70), (0, .ref (dad g p0)), (1, .int p1)] → W p l e (headSpec wsX12_leastWays (dRm 3 67)).room s mth (([.ref (dad g p0), .int p1] : List Value).toArray) below meth c H locs 0 0 (MQ below (dQV g m0) (([.ref (dad g p0), .int p1] : List Value).toArray) s 0 0 (dA g)) (F0 mth 156 ls [])) (K := fun q => (fun (v104 : _) => ∀ (H : Heap) (locs : List Loc) (ls : Array Slot), va_P g.1 vwCl (dws g m71) H → va_S (dA g) s.heap H locs → lv_has ls 8 [(0, .ref (dad g p0)), (1, .int p1), (3, .int v70), (4, .int v69), (5, .int v104)] → W p l e (headSpec wsX12_leastWays (dRm 3 67)).room s mth (([.ref (dad g p0), .int p1] : List Value).toArray) below meth c H locs 0 0 (MQ below (dQV g m0) (([.ref (dad g p0), .int p1] : List Value).toArray) s 0 0 (dA g)) (F0 mth 228 ls [])) q) ?_ dFl _ qL91 hqL91 ?_ H locs ls hP hS (lv_sub hl [0, 1, 2, 3, 4, 5] rfl)
        · intro q o h hCL91 hEL91
          obtain ⟨v92, v93⟩ := q
          have h : fX12_leastWays_l156 p0 p1 v69 v70 m71 v92 v93 = some o := h
          intro H locs ls hP hS hl
          have hP : va_P g.1 vwCl (dws g m71) H := hP
          have hl : lv_has ls 8 [(6, .int v92), (5, .int v93), (4, .int v69), (3, .int v70), (0, .ref (dad g p0)), (1, .int p1)] := hl
          unfold fX12_leastWays_l156 at h
          refine lv_iload S.1 S.2.1 dX12_leastWays_156 (lv_at hl 0 rfl) ?_
          refine lv_if_lt (tgt := 228) S.1 S.2.1 dX12_leastWays_158 (by decide) (fun cq => ?_) (fun cq => ?_)
          · have h := d_t cq h
            obtain rfl := Option.some.inj h
            exact hEL91 _ rfl H locs ls hP hS (lv_sub hl [4, 5, 3, 2, 1] rfl)
          · have h := d_f cq h
            refine lv_iload_n S.1 S.2.1 dX12_leastWays_161 rfl (lv_at hl 3 rfl) ?_
            refine lv_iload S.1 S.2.1 dX12_leastWays_162 (lv_at hl 0 rfl) ?_
            refine lv_ishr S.1 S.2.1 dX12_leastWays_164 ?_
            refine lv_iconst (v := 1) S.1 S.2.1 dX12_leastWays_165 (by decide) ?_
            refine lv_iand S.1 S.2.1 dX12_leastWays_166 ?_
            refine lv_if_ne (tgt := 205) S.1 S.2.1 dX12_leastWays_167 (by decide) (fun cq => ?_) (fun cq => ?_)
            · have h := d_f cq h
              refine lv_iconst (v := 0) S.1 S.2.1 dX12_leastWays_205 (by decide) ?_
              refine lv_istore (lv' := [(7, .int 0), (6, .int v92), (5, .int v93), (4, .int v69), (3, .int v70), (0, .ref (dad g p0)), (1, .int p1)]) S.1 S.2.1 dX12_leastWays_206 hl (by decide) rfl (fun ls hl => ?_)
              refine lv_iload S.1 S.2.1 dX12_leastWays_208 (lv_at hl 0 rfl) ?_
              refine lv_if_eq (tgt := 218) S.1 S.2.1 dX12_leastWays_210 (by decide) (fun cq => ?_) (fun cq => ?_)
              · refine lv_iload S.1 S.2.1 dX12_leastWays_218 (lv_at hl 2 rfl) ?_
                refine lv_istore (lv' := [(5, .int v93), (7, .int 0), (6, .int v92), (4, .int v69), (3, .int v70), (0, .ref (dad g p0)), (1, .int p1)]) S.1 S.2.1 dX12_leastWays_220 hl (by decide) rfl (fun ls hl => ?_)
                obtain ⟨v99, ev99⟩ : ∃ z : Int32, z = v92 + (-1) := ⟨_, rfl⟩
                have h := d_let ev99 h
                refine lv_iinc (v := v99) (lv' := [(6, .int v99), (5, .int v93), (7, .int 0), (4, .int v69), (3, .int v70), (0, .ref (dad g p0)), (1, .int p1)]) S.1 S.2.1 dX12_leastWays_222 hl (k := 2) rfl (by rw [ev99]; rfl) (by decide) rfl (fun ls hl => ?_)
                refine lv_goto (tgt := 156) S.1 S.2.1 dX12_leastWays_225 (by decide) ?_
                obtain rfl := Option.some.inj h
                exact hCL91 _ rfl H locs ls hP hS (lv_sub hl [0, 1, 3, 4, 5, 6] rfl)
              · exact absurd (by decide) cq
            · have h := d_t cq h
              refine lv_aload_n S.1 S.2.1 dX12_leastWays_170 rfl (lv_at hl 4 rfl) ?_
              refine lv_iload_n S.1 S.2.1 dX12_leastWays_171 rfl (lv_at hl 5 rfl) ?_
              refine lv_iload S.1 S.2.1 dX12_leastWays_172 (lv_at hl 2 rfl) ?_
              refine lv_iload S.1 S.2.1 dX12_leastWays_174 (lv_at hl 0 rfl) ?_
              obtain ⟨v101, hc100, h⟩ := d_b h
              refine drj (va_runV (As := [.int p1, .int v69, .int v92]) (rest := []) S (kX12_way l g hc100) (cwV 3 S.2.2.2.2 gX12_leastWays_X12_way rfl rfl rfl ynX12_way ⟨Nat.le_of_ble_eq_true rfl, Nat.le_of_ble_eq_true rfl⟩) (dpV hE hP hS (ci := 12) rfl (dat13 k0)) rfl rfl hl.1 rfl (lv_room (Nat.le_of_ble_eq_true rfl)) dX12_leastWays_176 ⟨Nat.le_of_ble_eq_true rfl, Nat.le_of_ble_eq_true rfl⟩) hS (fun H locs hP hS => ?_)
              refine lv_aload_n S.1 S.2.1 dX12_leastWays_179 rfl (lv_at hl 4 rfl) ?_
              refine dgf12_14 S in12 hE hP k0 (S.2.2.2.2 (.fieldLink RX12 48 "DrillFieldModel" "best" "[J") (List.mem_of_getElem? (i := 2) rfl)) dX12_leastWays_180 ?_
              refine lv_iload_n S.1 S.2.1 dX12_leastWays_183 rfl (lv_at hl 3 rfl) ?_
              refine lv_iconst (v := 1) S.1 S.2.1 dX12_leastWays_184 (by decide) ?_
              refine lv_iload S.1 S.2.1 dX12_leastWays_185 (lv_at hl 0 rfl) ?_
              refine lv_ishl S.1 S.2.1 dX12_leastWays_187 ?_
              refine lv_ior S.1 S.2.1 dX12_leastWays_188 ?_
              obtain ⟨hi, h⟩ := d_g h
              refine d_lald S hE hP dk_456 hi dX12_leastWays_189 ?_
              refine lv_ladd S.1 S.2.1 dX12_leastWays_190 ?_
              refine lv_aload_n S.1 S.2.1 dX12_leastWays_191 rfl (lv_at hl 4 rfl) ?_
              refine dgf12_14 S in12 hE hP k0 (S.2.2.2.2 (.fieldLink RX12 48 "DrillFieldModel" "best" "[J") (List.mem_of_getElem? (i := 2) rfl)) dX12_leastWays_192 ?_
              refine lv_iload_n S.1 S.2.1 dX12_leastWays_195 rfl (lv_at hl 3 rfl) ?_
              obtain ⟨hi, h⟩ := d_g h
              refine d_lald S hE hP dk_456 hi dX12_leastWays_196 ?_
              refine W.lcmp S.1 S.2.1 dX12_leastWays_197 ?_
              refine lv_if_ne (tgt := 205) S.1 S.2.1 dX12_leastWays_198 (by decide) (fun cq => ?_) (fun cq => ?_)
              · have h := d_f cq h
                refine lv_iconst (v := 0) S.1 S.2.1 dX12_leastWays_205 (by decide) ?_
                refine lv_istore (lv' := [(7, .int 0), (6, .int v92), (5, .int v93), (4, .int v69), (3, .int v70), (0, .ref (dad g p0)), (1, .int p1)]) S.1 S.2.1 dX12_leastWays_206 hl (by decide) rfl (fun ls hl => ?_)
                refine lv_iload S.1 S.2.1 dX12_leastWays_208 (lv_at hl 0 rfl) ?_
                refine lv_if_eq (tgt := 218) S.1 S.2.1 dX12_leastWays_210 (by decide) (fun cq => ?_) (fun cq => ?_)
                · refine lv_iload S.1 S.2.1 dX12_leastWays_218 (lv_at hl 2 rfl) ?_
                  refine lv_istore (lv' := [(5, .int v93), (7, .int 0), (6, .int v92), (4, .int v69), (3, .int v70), (0, .ref (dad g p0)), (1, .int p1)]) S.1 S.2.1 dX12_leastWays_220 hl (by decide) rfl (fun ls hl => ?_)
                  obtain ⟨v102, ev102⟩ : ∃ z : Int32, z = v92 + (-1) := ⟨_, rfl⟩
                  have h := d_let ev102 h
                  refine lv_iinc (v := v102) (lv' := [(6, .int v102), (5, .int v93), (7, .int 0), (4, .int v69), (3, .int v70), (0, .ref (dad g p0)), (1, .int p1)]) S.1 S.2.1 dX12_leastWays_222 hl (k := 2) rfl (by rw [ev102]; rfl) (by decide) rfl (fun ls hl => ?_)
                  refine lv_goto (tgt := 156) S.1 S.2.1 dX12_leastWays_225 (by decide) ?_
                  obtain rfl := Option.some.inj h
                  exact hCL91 _ rfl H locs ls hP hS (lv_sub hl [0, 1, 3, 4, 5, 6] rfl)
                · exact absurd (by decide) cq
              · have h := d_t cq h
                refine lv_iconst (v := 1) S.1 S.2.1 dX12_leastWays_201 (by decide) ?_
                refine lv_goto (tgt := 206) S.1 S.2.1 dX12_leastWays_202 (by decide) ?_
                refine lv_istore (lv' := [(7, .int 1), (6, .int v92), (5, .int v93), (4, .int v69), (3, .int v70), (0, .ref (dad g p0)), (1, .int p1)]) S.1 S.2.1 dX12_leastWays_206 hl (by decide) rfl (fun ls hl => ?_)
                refine lv_iload S.1 S.2.1 dX12_leastWays_208 (lv_at hl 0 rfl) ?_
                refine lv_if_eq (tgt := 218) S.1 S.2.1 dX12_leastWays_210 (by decide) (fun cq => ?_) (fun cq => ?_)
                · exact absurd cq (by decide)
                · refine lv_iload S.1 S.2.1 dX12_leastWays_213 (lv_at hl 1 rfl) ?_
                  refine lv_goto (tgt := 220) S.1 S.2.1 dX12_leastWays_215 (by decide) ?_
                  refine lv_istore (lv' := [(5, .int v92), (7, .int 1), (6, .int v92), (4, .int v69), (3, .int v70), (0, .ref (dad g p0)), (1, .int p1)]) S.1 S.2.1 dX12_leastWays_220 hl (by decide) rfl (fun ls hl => ?_)
                  obtain ⟨v103, ev103⟩ : ∃ z : Int32, z = v92 + (-1) := ⟨_, rfl⟩
                  have h := d_let ev103 h
                  refine lv_iinc (v := v103) (lv' := [(6, .int v103), (5, .int v92), (7, .int 1), (4, .int v69), (3, .int v70), (0, .ref (dad g p0)), (1, .int p1)]) S.1 S.2.1 dX12_leastWays_222 hl (k := 2) rfl (by rw [ev103]; rfl) (by decide) rfl (fun ls hl => ?_)
                  refine lv_goto (tgt := 156) S.1 S.2.1 dX12_leastWays_225 (by decide) ?_
                  obtain rfl := Option.some.inj h
                  exact hCL91 _ rfl H locs ls hP hS (lv_sub hl [0, 1, 3, 4, 5, 6] rfl)
        · obtain ⟨v104, rfl⟩ : ∃ z, z = qL91 := ⟨_, rfl⟩
          have h := d_p1 h
          intro H locs ls hP hS hl
          have hP : va_P g.1 vwCl (dws g m71) H := hP
          have hl : lv_has ls 8 [(0, .ref (dad g p0)), (1, .int p1), (3, .int v70), (4, .int v69), (5, .int v104)] := hl
          refine lv_aload_n S.1 S.2.1 dX12_leastWays_228 rfl (lv_at hl 0 rfl) ?_
          refine dgf12_13 S in12 hE hP k0 (S.2.2.2.2 (.fieldLink RX12 45 "DrillFieldModel" "goes" "[I") (List.mem_of_getElem? (i := 4) rfl)) dX12_leastWays_229 ?_
          refine lv_bipush (v := 10) S.1 S.2.1 dX12_leastWays_232 (by decide) ?_
          refine lv_iload_n S.1 S.2.1 dX12_leastWays_234 rfl (lv_at hl 1 rfl) ?_
          refine lv_imul S.1 S.2.1 dX12_leastWays_235 ?_
          refine lv_iload S.1 S.2.1 dX12_leastWays_236 (lv_at hl 3 rfl) ?_
          refine lv_iadd S.1 S.2.1 dX12_leastWays_238 ?_
          refine lv_iload S.1 S.2.1 dX12_leastWays_239 (lv_at hl 4 rfl) ?_
          obtain ⟨hi, h⟩ := d_g h
          refine d_iast S hE hP hS dk_455 hi dX12_leastWays_241 (fun H locs hP hS => ?_)
          obtain ⟨m105, em105⟩ : ∃ z : dM, z = d1 m71 455 (Int32.toNatClampNeg ((10 * p1) + v69)) v104 := ⟨_, rfl⟩
          have h := d_let em105 h
          rw [← em105] at hP
          refine lv_iload_n S.1 S.2.1 dX12_leastWays_242 rfl (lv_at hl 2 rfl) ?_
          refine lv_iconst (v := 1) S.1 S.2.1 dX12_leastWays_243 (by decide) ?_
          refine lv_iload S.1 S.2.1 dX12_leastWays_244 (lv_at hl 4 rfl) ?_
          refine lv_ishl S.1 S.2.1 dX12_leastWays_246 ?_
          refine lv_ior S.1 S.2.1 dX12_leastWays_247 ?_
          refine lv_topi (fun v106 ev106 => ?_)
          have h := d_let ev106 h
          refine lv_istore_n (lv' := [(3, .int v106), (0, .ref (dad g p0)), (1, .int p1), (4, .int v69), (5, .int v104)]) S.1 S.2.1 dX12_leastWays_248 rfl hl (by decide) rfl (fun ls hl => ?_)
          obtain ⟨v107, ev107⟩ : ∃ z : Int32, z = v69 + 1 := ⟨_, rfl⟩
          have h := d_let ev107 h
          refine lv_iinc (v := v107) (lv' := [(4, .int v107), (3, .int v106), (0, .ref (dad g p0)), (1, .int p1), (5, .int v104)]) S.1 S.2.1 dX12_leastWays_249 hl (k := 3) rfl (by rw [ev107]; rfl) (by decide) rfl (fun ls hl => ?_)
          refine lv_goto (tgt := 136) S.1 S.2.1 dX12_leastWays_252 (by decide) ?_
          obtain rfl := Option.some.inj h
          exact hCL68 _ rfl H locs ls hP hS (lv_sub hl [0, 1, 2, 3] rfl)
    · obtain ⟨m108, rfl⟩ : ∃ z, z = qL68 := ⟨_, rfl⟩
      have h := d_p1 h
      intro H locs ls hP hS hl
      have hP : va_P g.1 vwCl (dws g m108) H := hP
      have hl : lv_has ls 8 [] := hl
      obtain rfl := Option.some.inj h
      exact dtv S hr hlk hE hP hS dX12_leastWays_255
set_option maxRecDepth 20000 in
theorem ggX12_finds_X12_leastWays : GoodIn wsX12_finds wsX12_leastWays := goodIn_r _ [9, 2, 10, 11, 3, 12, 13, 8, 14, 15, 16, 17, 18, 19, 20, 21, 22, 23, 24, 25, 26, 27, 28, 29, 30, 31, 32, 33, 34, 35, 36, 37, 38, 39, 40, 41, 42, 43, 44, 45, 46, 47, 48, 49, 50, 51, 52, 53, 54, 55, 56, 57, 58, 59, 60, 61, 62, 63, 64, 65, 66, 67, 68] (by decide +kernel) (by decide +kernel)
set_option maxRecDepth 20000 in
theorem gX12_finds_X12_leastWays : GoodIn wsX12_finds (wsV RX12 138 RX12 yX12_leastWays wsX12_leastWays) := goodIn_app (goodIn_of _ (by decide +kernel)) ggX12_finds_X12_leastWays
theorem dX12_finds_0 : decode cX12_finds 0 = .ok (.iconst 0, 1) := by decide +kernel
theorem dX12_finds_1 : decode cX12_finds 1 = .ok (.istore_n 1, 1) := by decide +kernel
theorem dX12_finds_2 : decode cX12_finds 2 = .ok (.iload_n 1, 1) := by decide +kernel
theorem dX12_finds_3 : decode cX12_finds 3 = .ok (.aload_n 0, 1) := by decide +kernel
theorem dX12_finds_4 : decode cX12_finds 4 = .ok (.getfield 83, 3) := by decide +kernel
theorem dX12_finds_7 : decode cX12_finds 7 = .ok (.if_icmp .ge 55, 3) := by decide +kernel
theorem dX12_finds_10 : decode cX12_finds 10 = .ok (.iconst 0, 1) := by decide +kernel
theorem dX12_finds_11 : decode cX12_finds 11 = .ok (.istore_n 2, 1) := by decide +kernel
theorem dX12_finds_12 : decode cX12_finds 12 = .ok (.iload_n 2, 1) := by decide +kernel
theorem dX12_finds_13 : decode cX12_finds 13 = .ok (.aload_n 0, 1) := by decide +kernel
theorem dX12_finds_14 : decode cX12_finds 14 = .ok (.getfield 7, 3) := by decide +kernel
theorem dX12_finds_17 : decode cX12_finds 17 = .ok (.if_icmp .ge 21, 3) := by decide +kernel
theorem dX12_finds_20 : decode cX12_finds 20 = .ok (.aload_n 0, 1) := by decide +kernel
theorem dX12_finds_21 : decode cX12_finds 21 = .ok (.getfield 45, 3) := by decide +kernel
theorem dX12_finds_24 : decode cX12_finds 24 = .ok (.bipush 10, 2) := by decide +kernel
theorem dX12_finds_26 : decode cX12_finds 26 = .ok (.iload_n 1, 1) := by decide +kernel
theorem dX12_finds_27 : decode cX12_finds 27 = .ok (.imul, 1) := by decide +kernel
theorem dX12_finds_28 : decode cX12_finds 28 = .ok (.iload_n 2, 1) := by decide +kernel
theorem dX12_finds_29 : decode cX12_finds 29 = .ok (.iadd, 1) := by decide +kernel
theorem dX12_finds_30 : decode cX12_finds 30 = .ok (.iload_n 2, 1) := by decide +kernel
theorem dX12_finds_31 : decode cX12_finds 31 = .ok (.iastore, 1) := by decide +kernel
theorem dX12_finds_32 : decode cX12_finds 32 = .ok (.iinc 2 1, 3) := by decide +kernel
theorem dX12_finds_35 : decode cX12_finds 35 = .ok (.goto (-23), 3) := by decide +kernel
theorem dX12_finds_38 : decode cX12_finds 38 = .ok (.iload_n 1, 1) := by decide +kernel
theorem dX12_finds_39 : decode cX12_finds 39 = .ok (.ifCond .le 17, 3) := by decide +kernel
theorem dX12_finds_42 : decode cX12_finds 42 = .ok (.aload_n 0, 1) := by decide +kernel
theorem dX12_finds_43 : decode cX12_finds 43 = .ok (.getfield 42, 3) := by decide +kernel
theorem dX12_finds_46 : decode cX12_finds 46 = .ok (.iload_n 1, 1) := by decide +kernel
theorem dX12_finds_47 : decode cX12_finds 47 = .ok (.baload, 1) := by decide +kernel
theorem dX12_finds_48 : decode cX12_finds 48 = .ok (.ifCond .eq 8, 3) := by decide +kernel
theorem dX12_finds_51 : decode cX12_finds 51 = .ok (.aload_n 0, 1) := by decide +kernel
theorem dX12_finds_52 : decode cX12_finds 52 = .ok (.iload_n 1, 1) := by decide +kernel
theorem dX12_finds_53 : decode cX12_finds 53 = .ok (.invokevirtual 138, 3) := by decide +kernel
theorem dX12_finds_56 : decode cX12_finds 56 = .ok (.iinc 1 1, 3) := by decide +kernel
theorem dX12_finds_59 : decode cX12_finds 59 = .ok (.goto (-57), 3) := by decide +kernel
theorem dX12_finds_62 : decode cX12_finds 62 = .ok (.return_, 1) := by decide +kernel
def fX12_finds_l12 (p0 : Nat) (v2 : Int32) (v18 : Int32) (m19 : dM) : Option ((Int32 × dM) ⊕ dM) := if (m19.1 p0 0) ≤ v18 then some (.inr m19) else dg (dIx ((10 * v2) + v18) (dL 455)) (dlet (d1 m19 455 (Int32.toNatClampNeg ((10 * v2) + v18)) v18) (fun m22 => dlet (v18 + 1 : Int32) (fun v23 => some (.inl (v23, m22)))))
def fX12_finds_l2 (p0 : Nat) (v2 : Int32) (m3 : dM) : Option ((Int32 × dM) ⊕ dM) := if (m3.1 p0 8) ≤ v2 then some (.inr m3) else (dlp (fun q => dP2 q (fun v18 m19 => fX12_finds_l12 p0 v2 v18 m19)) dFl (0, m3)).bind (fun q => dP1 q (fun m24 => if v2 ≤ 0 then dlet (v2 + 1 : Int32) (fun v25 => some (.inl (v25, m24))) else dg (dIx v2 (dL 454)) (if (m24.1 454 (Int32.toNatClampNeg (v2))) = 0 then dlet (v2 + 1 : Int32) (fun v26 => some (.inl (v26, m24))) else (fX12_leastWays m24 p0 v2).bind (fun m28 => dlet (v2 + 1 : Int32) (fun v29 => some (.inl (v29, m28)))))))
def fX12_finds (m : dM) (p0 : Nat) : Option dM := dg (dkg p0 13) ((dlp (fun q => dP2 q (fun v2 m3 => fX12_finds_l2 p0 v2 m3)) dFl (0, m)).bind (fun q => dP1 q (fun m30 => some m30)))
set_option maxHeartbeats 4000000 in
set_option maxRecDepth 100000 in
theorem kX12_finds (l : Launch) (g : dG) {m : dM} {p0 : Nat} {m0 : dM} (h : fX12_finds m p0 = some m0) : dMet l g yX12_finds wsX12_finds (dRm 4 94) [.ref (dad g p0)] m (dQV g m0) := by
  refine dof (cc := cX12_finds) (maxL := 3) (ret := none) _ (plainFor_of_name (by decide)) rfl (Nat.le_of_ble_eq_true rfl) ?_
  intro p e s mth below meth c S hr hlk hE H ls hP hS hl
  have S : CallFix p mth c cX12_finds 3 s _ wsX12_finds RX12 := S
  have hl : lv_has ls 3 [(0, .ref (dad g p0))] := hl
  obtain ⟨locs, hlocs⟩ : ∃ z : List Loc, z = [] := ⟨_, rfl⟩
  rw [← hlocs] at hS ⊢
  have in12 : ∀ w ∈ wsX120, w ∈ wsX12_finds := by decide +kernel
  unfold fX12_finds at h
  obtain ⟨k0, h⟩ := d_g h
  have k0 := d_k k0
  refine lv_iconst (v := 0) S.1 S.2.1 dX12_finds_0 (by decide) ?_
  refine lv_istore_n (lv' := [(1, .int 0), (0, .ref (dad g p0))]) S.1 S.2.1 dX12_finds_1 rfl hl (by decide) rfl (fun ls hl => ?_)
  obtain ⟨qL1, hqL1, h⟩ := d_b h
  refine d_lp (Hd := fun q => match q with | (v2, m3) => ∀ (H : Heap) (locs : List Loc) (ls : Array Slot), va_P g.1 vwCl (dws g m3) H → va_S (dA g) s.heap H locs → lv_has ls 3 [(1, .int v2), (0, .ref (dad g p0))] → W p l e (headSpec wsX12_finds (dRm 4 94)).room s mth (([.ref (dad g p0)] : List Value).toArray) below meth c H locs 0 0 (MQ below (dQV g m0) (([.ref (dad g p0)] : List Value).toArray) s 0 0 (dA g)) (F0 mth 2 ls [])) (K := fun q => (fun (m30 : _) => ∀ (H : Heap) (locs : List Loc) (ls : Array Slot), va_P g.1 vwCl (dws g m30) H → va_S (dA g) s.heap H locs → lv_has ls 3 [] → W p l e (headSpec wsX12_finds (dRm 4 94)).room s mth (([.ref (dad g p0)] : List Value).toArray) below meth c H locs 0 0 (MQ below (dQV g m0) (([.ref (dad g p0)] : List Value).toArray) s 0 0 (dA g)) (F0 mth 62 ls [])) q) ?_ dFl _ qL1 hqL1 ?_ H locs ls hP hS (lv_sub hl [0, 1] rfl)
  · intro q o h hCL1 hEL1
    obtain ⟨v2, m3⟩ := q
    have h : fX12_finds_l2 p0 v2 m3 = some o := h
    intro H locs ls hP hS hl
    have hP : va_P g.1 vwCl (dws g m3) H := hP
    have hl : lv_has ls 3 [(1, .int v2), (0, .ref (dad g p0))] := hl
    unfold fX12_finds_l2 at h
    refine lv_iload_n S.1 S.2.1 dX12_finds_2 rfl (lv_at hl 0 rfl) ?_
    refine lv_aload_n S.1 S.2.1 dX12_finds_3 rfl (lv_at hl 1 rfl) ?_
    refine dgf12_8 S in12 hE hP k0 (S.2.2.2.2 (.fieldLink RX12 83 "DrillFieldModel" "parts" "I") (List.mem_of_getElem? (i := 1) rfl)) dX12_finds_4 ?_
    refine lv_icmp_ge (tgt := 62) S.1 S.2.1 dX12_finds_7 (by decide) (fun cq => ?_) (fun cq => ?_)
    · have h := d_t cq h
      obtain rfl := Option.some.inj h
      exact hEL1 _ rfl H locs ls hP hS (lv_sub hl [] rfl)
    · have h := d_f cq h
      refine lv_iconst (v := 0) S.1 S.2.1 dX12_finds_10 (by decide) ?_
      refine lv_istore_n (lv' := [(2, .int 0), (1, .int v2), (0, .ref (dad g p0))]) S.1 S.2.1 dX12_finds_11 rfl hl (by decide) rfl (fun ls hl => ?_)
      obtain ⟨qL17, hqL17, h⟩ := d_b h
      refine d_lp (Hd := fun q => match q with | (v18, m19) => ∀ (H : Heap) (locs : List Loc) (ls : Array Slot), va_P g.1 vwCl (dws g m19) H → va_S (dA g) s.heap H locs → lv_has ls 3 [(2, .int v18), (1, .int v2), (0, .ref (dad g p0))] → W p l e (headSpec wsX12_finds (dRm 4 94)).room s mth (([.ref (dad g p0)] : List Value).toArray) below meth c H locs 0 0 (MQ below (dQV g m0) (([.ref (dad g p0)] : List Value).toArray) s 0 0 (dA g)) (F0 mth 12 ls [])) (K := fun q => (fun (m24 : _) => ∀ (H : Heap) (locs : List Loc) (ls : Array Slot), va_P g.1 vwCl (dws g m24) H → va_S (dA g) s.heap H locs → lv_has ls 3 [(0, .ref (dad g p0)), (1, .int v2)] → W p l e (headSpec wsX12_finds (dRm 4 94)).room s mth (([.ref (dad g p0)] : List Value).toArray) below meth c H locs 0 0 (MQ below (dQV g m0) (([.ref (dad g p0)] : List Value).toArray) s 0 0 (dA g)) (F0 mth 38 ls [])) q) ?_ dFl _ qL17 hqL17 ?_ H locs ls hP hS (lv_sub hl [0, 1, 2] rfl)
      · intro q o h hCL17 hEL17
        obtain ⟨v18, m19⟩ := q
        have h : fX12_finds_l12 p0 v2 v18 m19 = some o := h
        intro H locs ls hP hS hl
        have hP : va_P g.1 vwCl (dws g m19) H := hP
        have hl : lv_has ls 3 [(2, .int v18), (1, .int v2), (0, .ref (dad g p0))] := hl
        unfold fX12_finds_l12 at h
        refine lv_iload_n S.1 S.2.1 dX12_finds_12 rfl (lv_at hl 0 rfl) ?_
        refine lv_aload_n S.1 S.2.1 dX12_finds_13 rfl (lv_at hl 2 rfl) ?_
        refine dgf12_0 S in12 hE hP k0 (S.2.2.2.2 (.fieldLink RX12 7 "DrillFieldModel" "dots" "I") (List.mem_of_getElem? (i := 2) rfl)) dX12_finds_14 ?_
        refine lv_icmp_ge (tgt := 38) S.1 S.2.1 dX12_finds_17 (by decide) (fun cq => ?_) (fun cq => ?_)
        · have h := d_t cq h
          obtain rfl := Option.some.inj h
          exact hEL17 _ rfl H locs ls hP hS (lv_sub hl [2, 1] rfl)
        · have h := d_f cq h
          refine lv_aload_n S.1 S.2.1 dX12_finds_20 rfl (lv_at hl 2 rfl) ?_
          refine dgf12_13 S in12 hE hP k0 (S.2.2.2.2 (.fieldLink RX12 45 "DrillFieldModel" "goes" "[I") (List.mem_of_getElem? (i := 3) rfl)) dX12_finds_21 ?_
          refine lv_bipush (v := 10) S.1 S.2.1 dX12_finds_24 (by decide) ?_
          refine lv_iload_n S.1 S.2.1 dX12_finds_26 rfl (lv_at hl 1 rfl) ?_
          refine lv_imul S.1 S.2.1 dX12_finds_27 ?_
          refine lv_iload_n S.1 S.2.1 dX12_finds_28 rfl (lv_at hl 0 rfl) ?_
          refine lv_iadd S.1 S.2.1 dX12_finds_29 ?_
          refine lv_iload_n S.1 S.2.1 dX12_finds_30 rfl (lv_at hl 0 rfl) ?_
          obtain ⟨hi, h⟩ := d_g h
          refine d_iast S hE hP hS dk_455 hi dX12_finds_31 (fun H locs hP hS => ?_)
          obtain ⟨m22, em22⟩ : ∃ z : dM, z = d1 m19 455 (Int32.toNatClampNeg ((10 * v2) + v18)) v18 := ⟨_, rfl⟩
          have h := d_let em22 h
          rw [← em22] at hP
          obtain ⟨v23, ev23⟩ : ∃ z : Int32, z = v18 + 1 := ⟨_, rfl⟩
          have h := d_let ev23 h
          refine lv_iinc (v := v23) (lv' := [(2, .int v23), (1, .int v2), (0, .ref (dad g p0))]) S.1 S.2.1 dX12_finds_32 hl (k := 0) rfl (by rw [ev23]; rfl) (by decide) rfl (fun ls hl => ?_)
          refine lv_goto (tgt := 12) S.1 S.2.1 dX12_finds_35 (by decide) ?_
          obtain rfl := Option.some.inj h
          exact hCL17 _ rfl H locs ls hP hS (lv_sub hl [0, 1, 2] rfl)
      · obtain ⟨m24, rfl⟩ : ∃ z, z = qL17 := ⟨_, rfl⟩
        have h := d_p1 h
        intro H locs ls hP hS hl
        have hP : va_P g.1 vwCl (dws g m24) H := hP
        have hl : lv_has ls 3 [(0, .ref (dad g p0)), (1, .int v2)] := hl
        refine lv_iload_n S.1 S.2.1 dX12_finds_38 rfl (lv_at hl 1 rfl) ?_
        refine lv_if_le (tgt := 56) S.1 S.2.1 dX12_finds_39 (by decide) (fun cq => ?_) (fun cq => ?_)
        · have h := d_t cq h
          obtain ⟨v25, ev25⟩ : ∃ z : Int32, z = v2 + 1 := ⟨_, rfl⟩
          have h := d_let ev25 h
          refine lv_iinc (v := v25) (lv' := [(1, .int v25), (0, .ref (dad g p0))]) S.1 S.2.1 dX12_finds_56 hl (k := 1) rfl (by rw [ev25]; rfl) (by decide) rfl (fun ls hl => ?_)
          refine lv_goto (tgt := 2) S.1 S.2.1 dX12_finds_59 (by decide) ?_
          obtain rfl := Option.some.inj h
          exact hCL1 _ rfl H locs ls hP hS (lv_sub hl [0, 1] rfl)
        · have h := d_f cq h
          refine lv_aload_n S.1 S.2.1 dX12_finds_42 rfl (lv_at hl 0 rfl) ?_
          refine dgf12_12 S in12 hE hP k0 (S.2.2.2.2 (.fieldLink RX12 42 "DrillFieldModel" "isLeast" "[Z") (List.mem_of_getElem? (i := 4) rfl)) dX12_finds_43 ?_
          refine lv_iload_n S.1 S.2.1 dX12_finds_46 rfl (lv_at hl 1 rfl) ?_
          obtain ⟨hi, h⟩ := d_g h
          refine d_zald S hE hP dk_454 hi dX12_finds_47 ?_
          refine lv_if_eq (tgt := 56) S.1 S.2.1 dX12_finds_48 (by decide) (fun cq => ?_) (fun cq => ?_)
          · have h := d_t cq h
            obtain ⟨v26, ev26⟩ : ∃ z : Int32, z = v2 + 1 := ⟨_, rfl⟩
            have h := d_let ev26 h
            refine lv_iinc (v := v26) (lv' := [(1, .int v26), (0, .ref (dad g p0))]) S.1 S.2.1 dX12_finds_56 hl (k := 1) rfl (by rw [ev26]; rfl) (by decide) rfl (fun ls hl => ?_)
            refine lv_goto (tgt := 2) S.1 S.2.1 dX12_finds_59 (by decide) ?_
            obtain rfl := Option.some.inj h
            exact hCL1 _ rfl H locs ls hP hS (lv_sub hl [0, 1] rfl)
          · have h := d_f cq h
            refine lv_aload_n S.1 S.2.1 dX12_finds_51 rfl (lv_at hl 0 rfl) ?_
            refine lv_iload_n S.1 S.2.1 dX12_finds_52 rfl (lv_at hl 1 rfl) ?_
            obtain ⟨m28, hc27, h⟩ := d_b h
            refine drv (va_runV (As := [.int v2]) (rest := []) S (kX12_leastWays l g hc27) (cwV 1 S.2.2.2.2 gX12_finds_X12_leastWays rfl rfl rfl ynX12_leastWays ⟨Nat.le_of_ble_eq_true rfl, Nat.le_of_ble_eq_true rfl⟩) (dpV hE hP hS (ci := 12) rfl (dat13 k0)) rfl rfl hl.1 rfl (lv_room (Nat.le_of_ble_eq_true rfl)) dX12_finds_53 ⟨Nat.le_of_ble_eq_true rfl, Nat.le_of_ble_eq_true rfl⟩) hS (fun H locs hP hS => ?_)
            obtain ⟨v29, ev29⟩ : ∃ z : Int32, z = v2 + 1 := ⟨_, rfl⟩
            have h := d_let ev29 h
            refine lv_iinc (v := v29) (lv' := [(1, .int v29), (0, .ref (dad g p0))]) S.1 S.2.1 dX12_finds_56 hl (k := 1) rfl (by rw [ev29]; rfl) (by decide) rfl (fun ls hl => ?_)
            refine lv_goto (tgt := 2) S.1 S.2.1 dX12_finds_59 (by decide) ?_
            obtain rfl := Option.some.inj h
            exact hCL1 _ rfl H locs ls hP hS (lv_sub hl [0, 1] rfl)
  · obtain ⟨m30, rfl⟩ : ∃ z, z = qL1 := ⟨_, rfl⟩
    have h := d_p1 h
    intro H locs ls hP hS hl
    have hP : va_P g.1 vwCl (dws g m30) H := hP
    have hl : lv_has ls 3 [] := hl
    obtain rfl := Option.some.inj h
    exact dtv S hr hlk hE hP hS dX12_finds_62
