theorem dX11_isWithin_0 : decode cX11_isWithin 0 = .ok (.iload_n 0, 1) := by decide +kernel
theorem dX11_isWithin_1 : decode cX11_isWithin 1 = .ok (.iload_n 1, 1) := by decide +kernel
theorem dX11_isWithin_2 : decode cX11_isWithin 2 = .ok (.if_icmp .lt 12, 3) := by decide +kernel
theorem dX11_isWithin_5 : decode cX11_isWithin 5 = .ok (.iload_n 0, 1) := by decide +kernel
theorem dX11_isWithin_6 : decode cX11_isWithin 6 = .ok (.iload_n 2, 1) := by decide +kernel
theorem dX11_isWithin_7 : decode cX11_isWithin 7 = .ok (.if_icmp .gt 7, 3) := by decide +kernel
theorem dX11_isWithin_10 : decode cX11_isWithin 10 = .ok (.iconst 1, 1) := by decide +kernel
theorem dX11_isWithin_11 : decode cX11_isWithin 11 = .ok (.goto 4, 3) := by decide +kernel
theorem dX11_isWithin_14 : decode cX11_isWithin 14 = .ok (.iconst 0, 1) := by decide +kernel
theorem dX11_isWithin_15 : decode cX11_isWithin 15 = .ok (.ireturn, 1) := by decide +kernel
def fX11_isWithin (m : dM) (p0 : Int32) (p1 : Int32) (p2 : Int32) : Option Int32 := if p0 < p1 then some 0 else if p2 < p0 then some 0 else some 1
set_option maxHeartbeats 4000000 in
set_option maxRecDepth 100000 in
theorem kX11_isWithin (l : Launch) (g : dG) {m : dM} {p0 : Int32} {p1 : Int32} {p2 : Int32} {r0 : Int32} (h : fX11_isWithin m p0 p1 p2 = some r0) : dMet l g yX11_isWithin wsX11_isWithin (dRm 0 0) [.int p0, .int p1, .int p2] m (dQI g r0 m) := by
  refine dof (cc := cX11_isWithin) (maxL := 3) (ret := (some .boolean)) _ (plainFor_of_name (by decide)) rfl (Nat.le_of_ble_eq_true rfl) ?_
  intro p e s mth below meth c S hr hlk hE H ls hP hS hl
  have S : CallFix p mth c cX11_isWithin 3 s _ wsX11_isWithin RX11 := S
  have hl : lv_has ls 3 [(0, .int p0), (1, .int p1), (2, .int p2)] := hl
  obtain ⟨locs, hlocs⟩ : ∃ z : List Loc, z = [] := ⟨_, rfl⟩
  rw [← hlocs] at hS ⊢
  unfold fX11_isWithin at h
  refine lv_iload_n S.1 S.2.1 dX11_isWithin_0 rfl (lv_at hl 0 rfl) ?_
  refine lv_iload_n S.1 S.2.1 dX11_isWithin_1 rfl (lv_at hl 1 rfl) ?_
  refine lv_icmp_lt (tgt := 14) S.1 S.2.1 dX11_isWithin_2 (by decide) (fun cq => ?_) (fun cq => ?_)
  · have h := d_t cq h
    refine lv_iconst (v := 0) S.1 S.2.1 dX11_isWithin_14 (by decide) ?_
    obtain rfl := Option.some.inj h
    exact dti S hr hlk hE hP hS rfl dX11_isWithin_15
  · have h := d_f cq h
    refine lv_iload_n S.1 S.2.1 dX11_isWithin_5 rfl (lv_at hl 0 rfl) ?_
    refine lv_iload_n S.1 S.2.1 dX11_isWithin_6 rfl (lv_at hl 2 rfl) ?_
    refine lv_icmp_gt (tgt := 14) S.1 S.2.1 dX11_isWithin_7 (by decide) (fun cq => ?_) (fun cq => ?_)
    · have h := d_t cq h
      refine lv_iconst (v := 0) S.1 S.2.1 dX11_isWithin_14 (by decide) ?_
      obtain rfl := Option.some.inj h
      exact dti S hr hlk hE hP hS rfl dX11_isWithin_15
    · have h := d_f cq h
      refine lv_iconst (v := 1) S.1 S.2.1 dX11_isWithin_10 (by decide) ?_
      refine lv_goto (tgt := 15) S.1 S.2.1 dX11_isWithin_11 (by decide) ?_
      obtain rfl := Option.some.inj h
      exact dti S hr hlk hE hP hS rfl dX11_isWithin_15
theorem dJ9_floorDiv_7cf53_0 : decode cJ9_floorDiv_7cf53 0 = .ok (.iload_n 0, 1) := by decide +kernel
theorem dJ9_floorDiv_7cf53_1 : decode cJ9_floorDiv_7cf53 1 = .ok (.iload_n 1, 1) := by decide +kernel
theorem dJ9_floorDiv_7cf53_2 : decode cJ9_floorDiv_7cf53 2 = .ok (.idiv, 1) := by decide +kernel
theorem dJ9_floorDiv_7cf53_3 : decode cJ9_floorDiv_7cf53 3 = .ok (.istore_n 2, 1) := by decide +kernel
theorem dJ9_floorDiv_7cf53_4 : decode cJ9_floorDiv_7cf53 4 = .ok (.iload_n 0, 1) := by decide +kernel
theorem dJ9_floorDiv_7cf53_5 : decode cJ9_floorDiv_7cf53 5 = .ok (.iload_n 1, 1) := by decide +kernel
theorem dJ9_floorDiv_7cf53_6 : decode cJ9_floorDiv_7cf53 6 = .ok (.ixor, 1) := by decide +kernel
theorem dJ9_floorDiv_7cf53_7 : decode cJ9_floorDiv_7cf53 7 = .ok (.ifCond .ge 14, 3) := by decide +kernel
theorem dJ9_floorDiv_7cf53_10 : decode cJ9_floorDiv_7cf53 10 = .ok (.iload_n 2, 1) := by decide +kernel
theorem dJ9_floorDiv_7cf53_11 : decode cJ9_floorDiv_7cf53 11 = .ok (.iload_n 1, 1) := by decide +kernel
theorem dJ9_floorDiv_7cf53_12 : decode cJ9_floorDiv_7cf53 12 = .ok (.imul, 1) := by decide +kernel
theorem dJ9_floorDiv_7cf53_13 : decode cJ9_floorDiv_7cf53 13 = .ok (.iload_n 0, 1) := by decide +kernel
theorem dJ9_floorDiv_7cf53_14 : decode cJ9_floorDiv_7cf53 14 = .ok (.if_icmp .eq 7, 3) := by decide +kernel
theorem dJ9_floorDiv_7cf53_17 : decode cJ9_floorDiv_7cf53 17 = .ok (.iload_n 2, 1) := by decide +kernel
theorem dJ9_floorDiv_7cf53_18 : decode cJ9_floorDiv_7cf53 18 = .ok (.iconst 1, 1) := by decide +kernel
theorem dJ9_floorDiv_7cf53_19 : decode cJ9_floorDiv_7cf53 19 = .ok (.isub, 1) := by decide +kernel
theorem dJ9_floorDiv_7cf53_20 : decode cJ9_floorDiv_7cf53 20 = .ok (.ireturn, 1) := by decide +kernel
theorem dJ9_floorDiv_7cf53_21 : decode cJ9_floorDiv_7cf53 21 = .ok (.iload_n 2, 1) := by decide +kernel
theorem dJ9_floorDiv_7cf53_22 : decode cJ9_floorDiv_7cf53 22 = .ok (.ireturn, 1) := by decide +kernel
def fJ9_floorDiv_7cf53 (m : dM) (p0 : Int32) (p1 : Int32) : Option Int32 := dg (decide (¬ p1 = 0)) (dlet (p0 / p1 : Int32) (fun v1 => if 0 ≤ (p0 ^^^ p1) then some v1 else if (v1 * p1) = p0 then some v1 else some (v1 - 1)))
set_option maxHeartbeats 4000000 in
set_option maxRecDepth 100000 in
theorem kJ9_floorDiv_7cf53 (l : Launch) (g : dG) {m : dM} {p0 : Int32} {p1 : Int32} {r0 : Int32} (h : fJ9_floorDiv_7cf53 m p0 p1 = some r0) : dMet l g yJ9_floorDiv_7cf53 wsJ9_floorDiv_7cf53 (dRm 0 0) [.int p0, .int p1] m (dQI g r0 m) := by
  refine dof (cc := cJ9_floorDiv_7cf53) (maxL := 3) (ret := (some .int)) _ (by decide +kernel) rfl (Nat.le_of_ble_eq_true rfl) ?_
  intro p e s mth below meth c S hr hlk hE H ls hP hS hl
  have S : CallFix p mth c cJ9_floorDiv_7cf53 3 s _ wsJ9_floorDiv_7cf53 RJ9 := S
  have hl : lv_has ls 3 [(0, .int p0), (1, .int p1)] := hl
  obtain ⟨locs, hlocs⟩ : ∃ z : List Loc, z = [] := ⟨_, rfl⟩
  rw [← hlocs] at hS ⊢
  unfold fJ9_floorDiv_7cf53 at h
  refine lv_iload_n S.1 S.2.1 dJ9_floorDiv_7cf53_0 rfl (lv_at hl 0 rfl) ?_
  refine lv_iload_n S.1 S.2.1 dJ9_floorDiv_7cf53_1 rfl (lv_at hl 1 rfl) ?_
  obtain ⟨hz, h⟩ := d_g h
  refine lv_idiv S.1 S.2.1 dJ9_floorDiv_7cf53_2 (of_decide_eq_true hz) ?_
  refine lv_topi (fun v1 ev1 => ?_)
  have h := d_let ev1 h
  refine lv_istore_n (lv' := [(2, .int v1), (0, .int p0), (1, .int p1)]) S.1 S.2.1 dJ9_floorDiv_7cf53_3 rfl hl (by decide) rfl (fun ls hl => ?_)
  refine lv_iload_n S.1 S.2.1 dJ9_floorDiv_7cf53_4 rfl (lv_at hl 1 rfl) ?_
  refine lv_iload_n S.1 S.2.1 dJ9_floorDiv_7cf53_5 rfl (lv_at hl 2 rfl) ?_
  refine lv_ixor S.1 S.2.1 dJ9_floorDiv_7cf53_6 ?_
  refine lv_if_ge (tgt := 21) S.1 S.2.1 dJ9_floorDiv_7cf53_7 (by decide) (fun cq => ?_) (fun cq => ?_)
  · have h := d_t cq h
    refine lv_iload_n S.1 S.2.1 dJ9_floorDiv_7cf53_21 rfl (lv_at hl 0 rfl) ?_
    obtain rfl := Option.some.inj h
    exact dti S hr hlk hE hP hS rfl dJ9_floorDiv_7cf53_22
  · have h := d_f cq h
    refine lv_iload_n S.1 S.2.1 dJ9_floorDiv_7cf53_10 rfl (lv_at hl 0 rfl) ?_
    refine lv_iload_n S.1 S.2.1 dJ9_floorDiv_7cf53_11 rfl (lv_at hl 2 rfl) ?_
    refine lv_imul S.1 S.2.1 dJ9_floorDiv_7cf53_12 ?_
    refine lv_iload_n S.1 S.2.1 dJ9_floorDiv_7cf53_13 rfl (lv_at hl 1 rfl) ?_
    refine lv_icmp_eq (tgt := 21) S.1 S.2.1 dJ9_floorDiv_7cf53_14 (by decide) (fun cq => ?_) (fun cq => ?_)
    · have h := d_t cq h
      refine lv_iload_n S.1 S.2.1 dJ9_floorDiv_7cf53_21 rfl (lv_at hl 0 rfl) ?_
      obtain rfl := Option.some.inj h
      exact dti S hr hlk hE hP hS rfl dJ9_floorDiv_7cf53_22
    · have h := d_f cq h
      refine lv_iload_n S.1 S.2.1 dJ9_floorDiv_7cf53_17 rfl (lv_at hl 0 rfl) ?_
      refine lv_iconst (v := 1) S.1 S.2.1 dJ9_floorDiv_7cf53_18 (by decide) ?_
      refine lv_isub S.1 S.2.1 dJ9_floorDiv_7cf53_19 ?_
      obtain rfl := Option.some.inj h
      exact dti S hr hlk hE hP hS rfl dJ9_floorDiv_7cf53_20
set_option maxRecDepth 20000 in
theorem ggX11_downBy_J9_floorDiv_7cf53 : GoodIn wsX11_downBy wsJ9_floorDiv_7cf53 := goodIn_r _ [4] (by decide +kernel) (by decide +kernel)
set_option maxRecDepth 20000 in
theorem gX11_downBy_J9_floorDiv_7cf53 : GoodIn wsX11_downBy (va_wsS RX11 292 yJ9_floorDiv_7cf53 wsJ9_floorDiv_7cf53) := goodIn_app (goodIn_of _ (by decide +kernel)) ggX11_downBy_J9_floorDiv_7cf53
theorem dX11_downBy_0 : decode cX11_downBy 0 = .ok (.iload_n 1, 1) := by decide +kernel
theorem dX11_downBy_1 : decode cX11_downBy 1 = .ok (.ifCond .le 11, 3) := by decide +kernel
theorem dX11_downBy_4 : decode cX11_downBy 4 = .ok (.iload_n 0, 1) := by decide +kernel
theorem dX11_downBy_5 : decode cX11_downBy 5 = .ok (.iload_n 1, 1) := by decide +kernel
theorem dX11_downBy_6 : decode cX11_downBy 6 = .ok (.invokestatic 292, 3) := by decide +kernel
theorem dX11_downBy_9 : decode cX11_downBy 9 = .ok (.goto 4, 3) := by decide +kernel
theorem dX11_downBy_12 : decode cX11_downBy 12 = .ok (.iconst 0, 1) := by decide +kernel
theorem dX11_downBy_13 : decode cX11_downBy 13 = .ok (.ireturn, 1) := by decide +kernel
def fX11_downBy (m : dM) (p0 : Int32) (p1 : Int32) : Option Int32 := if p1 ≤ 0 then some 0 else (fJ9_floorDiv_7cf53 m p0 p1).bind (fun v2 => some v2)
set_option maxHeartbeats 4000000 in
set_option maxRecDepth 100000 in
theorem kX11_downBy (l : Launch) (g : dG) {m : dM} {p0 : Int32} {p1 : Int32} {r0 : Int32} (h : fX11_downBy m p0 p1 = some r0) : dMet l g yX11_downBy wsX11_downBy (dRm 1 22) [.int p0, .int p1] m (dQI g r0 m) := by
  refine dof (cc := cX11_downBy) (maxL := 2) (ret := (some .int)) _ (plainFor_of_name (by decide)) rfl (Nat.le_of_ble_eq_true rfl) ?_
  intro p e s mth below meth c S hr hlk hE H ls hP hS hl
  have S : CallFix p mth c cX11_downBy 2 s _ wsX11_downBy RX11 := S
  have hl : lv_has ls 2 [(0, .int p0), (1, .int p1)] := hl
  obtain ⟨locs, hlocs⟩ : ∃ z : List Loc, z = [] := ⟨_, rfl⟩
  rw [← hlocs] at hS ⊢
  unfold fX11_downBy at h
  refine lv_iload_n S.1 S.2.1 dX11_downBy_0 rfl (lv_at hl 1 rfl) ?_
  refine lv_if_le (tgt := 12) S.1 S.2.1 dX11_downBy_1 (by decide) (fun cq => ?_) (fun cq => ?_)
  · have h := d_t cq h
    refine lv_iconst (v := 0) S.1 S.2.1 dX11_downBy_12 (by decide) ?_
    obtain rfl := Option.some.inj h
    exact dti S hr hlk hE hP hS rfl dX11_downBy_13
  · have h := d_f cq h
    refine lv_iload_n S.1 S.2.1 dX11_downBy_4 rfl (lv_at hl 0 rfl) ?_
    refine lv_iload_n S.1 S.2.1 dX11_downBy_5 rfl (lv_at hl 1 rfl) ?_
    obtain ⟨v2, hc1, h⟩ := d_b h
    refine dri (va_runS (As := [.int p0, .int p1]) (rest := []) S (kJ9_floorDiv_7cf53 l g hc1) (va_cwS 2 S.2.2.2.2 gX11_downBy_J9_floorDiv_7cf53 rfl rfl rfl ynJ9_floorDiv_7cf53 ⟨Nat.le_of_ble_eq_true rfl, Nat.le_of_ble_eq_true rfl⟩) (dpS hE hP hS) rfl rfl hl.1 rfl (lv_room (Nat.le_of_ble_eq_true rfl)) dX11_downBy_6 ⟨Nat.le_of_ble_eq_true rfl, Nat.le_of_ble_eq_true rfl⟩) hS (fun H locs hP hS => ?_)
    refine lv_goto (tgt := 13) S.1 S.2.1 dX11_downBy_9 (by decide) ?_
    obtain rfl := Option.some.inj h
    exact dti S hr hlk hE hP hS rfl dX11_downBy_13
theorem dX11_isInRow_0 : decode cX11_isInRow 0 = .ok (.iload_n 0, 1) := by decide +kernel
theorem dX11_isInRow_1 : decode cX11_isInRow 1 = .ok (.ifCond .lt 13, 3) := by decide +kernel
theorem dX11_isInRow_4 : decode cX11_isInRow 4 = .ok (.iload_n 0, 1) := by decide +kernel
theorem dX11_isInRow_5 : decode cX11_isInRow 5 = .ok (.bipush 10, 2) := by decide +kernel
theorem dX11_isInRow_7 : decode cX11_isInRow 7 = .ok (.if_icmp .ge 7, 3) := by decide +kernel
theorem dX11_isInRow_10 : decode cX11_isInRow 10 = .ok (.iconst 1, 1) := by decide +kernel
theorem dX11_isInRow_11 : decode cX11_isInRow 11 = .ok (.goto 4, 3) := by decide +kernel
theorem dX11_isInRow_14 : decode cX11_isInRow 14 = .ok (.iconst 0, 1) := by decide +kernel
theorem dX11_isInRow_15 : decode cX11_isInRow 15 = .ok (.ireturn, 1) := by decide +kernel
def fX11_isInRow (m : dM) (p0 : Int32) : Option Int32 := if p0 < 0 then some 0 else if 10 ≤ p0 then some 0 else some 1
set_option maxHeartbeats 4000000 in
set_option maxRecDepth 100000 in
theorem kX11_isInRow (l : Launch) (g : dG) {m : dM} {p0 : Int32} {r0 : Int32} (h : fX11_isInRow m p0 = some r0) : dMet l g yX11_isInRow wsX11_isInRow (dRm 0 0) [.int p0] m (dQI g r0 m) := by
  refine dof (cc := cX11_isInRow) (maxL := 1) (ret := (some .boolean)) _ (plainFor_of_name (by decide)) rfl (Nat.le_of_ble_eq_true rfl) ?_
  intro p e s mth below meth c S hr hlk hE H ls hP hS hl
  have S : CallFix p mth c cX11_isInRow 1 s _ wsX11_isInRow RX11 := S
  have hl : lv_has ls 1 [(0, .int p0)] := hl
  obtain ⟨locs, hlocs⟩ : ∃ z : List Loc, z = [] := ⟨_, rfl⟩
  rw [← hlocs] at hS ⊢
  unfold fX11_isInRow at h
  refine lv_iload_n S.1 S.2.1 dX11_isInRow_0 rfl (lv_at hl 0 rfl) ?_
  refine lv_if_lt (tgt := 14) S.1 S.2.1 dX11_isInRow_1 (by decide) (fun cq => ?_) (fun cq => ?_)
  · have h := d_t cq h
    refine lv_iconst (v := 0) S.1 S.2.1 dX11_isInRow_14 (by decide) ?_
    obtain rfl := Option.some.inj h
    exact dti S hr hlk hE hP hS rfl dX11_isInRow_15
  · have h := d_f cq h
    refine lv_iload_n S.1 S.2.1 dX11_isInRow_4 rfl (lv_at hl 0 rfl) ?_
    refine lv_bipush (v := 10) S.1 S.2.1 dX11_isInRow_5 (by decide) ?_
    refine lv_icmp_ge (tgt := 14) S.1 S.2.1 dX11_isInRow_7 (by decide) (fun cq => ?_) (fun cq => ?_)
    · have h := d_t cq h
      refine lv_iconst (v := 0) S.1 S.2.1 dX11_isInRow_14 (by decide) ?_
      obtain rfl := Option.some.inj h
      exact dti S hr hlk hE hP hS rfl dX11_isInRow_15
    · have h := d_f cq h
      refine lv_iconst (v := 1) S.1 S.2.1 dX11_isInRow_10 (by decide) ?_
      refine lv_goto (tgt := 15) S.1 S.2.1 dX11_isInRow_11 (by decide) ?_
      obtain rfl := Option.some.inj h
      exact dti S hr hlk hE hP hS rfl dX11_isInRow_15
theorem dX11_square_0 : decode cX11_square 0 = .ok (.iload_n 0, 1) := by decide +kernel
theorem dX11_square_1 : decode cX11_square 1 = .ok (.iload_n 0, 1) := by decide +kernel
theorem dX11_square_2 : decode cX11_square 2 = .ok (.imul, 1) := by decide +kernel
theorem dX11_square_3 : decode cX11_square 3 = .ok (.iload_n 1, 1) := by decide +kernel
theorem dX11_square_4 : decode cX11_square 4 = .ok (.iload_n 1, 1) := by decide +kernel
theorem dX11_square_5 : decode cX11_square 5 = .ok (.imul, 1) := by decide +kernel
theorem dX11_square_6 : decode cX11_square 6 = .ok (.iadd, 1) := by decide +kernel
theorem dX11_square_7 : decode cX11_square 7 = .ok (.ireturn, 1) := by decide +kernel
def fX11_square (m : dM) (p0 : Int32) (p1 : Int32) : Option Int32 := some ((p0 * p0) + (p1 * p1))
set_option maxHeartbeats 4000000 in
set_option maxRecDepth 100000 in
theorem kX11_square (l : Launch) (g : dG) {m : dM} {p0 : Int32} {p1 : Int32} {r0 : Int32} (h : fX11_square m p0 p1 = some r0) : dMet l g yX11_square wsX11_square (dRm 0 0) [.int p0, .int p1] m (dQI g r0 m) := by
  refine dof (cc := cX11_square) (maxL := 2) (ret := (some .int)) _ (plainFor_of_name (by decide)) rfl (Nat.le_of_ble_eq_true rfl) ?_
  intro p e s mth below meth c S hr hlk hE H ls hP hS hl
  have S : CallFix p mth c cX11_square 2 s _ wsX11_square RX11 := S
  have hl : lv_has ls 2 [(0, .int p0), (1, .int p1)] := hl
  obtain ⟨locs, hlocs⟩ : ∃ z : List Loc, z = [] := ⟨_, rfl⟩
  rw [← hlocs] at hS ⊢
  unfold fX11_square at h
  refine lv_iload_n S.1 S.2.1 dX11_square_0 rfl (lv_at hl 0 rfl) ?_
  refine lv_iload_n S.1 S.2.1 dX11_square_1 rfl (lv_at hl 0 rfl) ?_
  refine lv_imul S.1 S.2.1 dX11_square_2 ?_
  refine lv_iload_n S.1 S.2.1 dX11_square_3 rfl (lv_at hl 1 rfl) ?_
  refine lv_iload_n S.1 S.2.1 dX11_square_4 rfl (lv_at hl 1 rfl) ?_
  refine lv_imul S.1 S.2.1 dX11_square_5 ?_
  refine lv_iadd S.1 S.2.1 dX11_square_6 ?_
  obtain rfl := Option.some.inj h
  exact dti S hr hlk hE hP hS rfl dX11_square_7
theorem dJ9_floorMod_7cf53_0 : decode cJ9_floorMod_7cf53 0 = .ok (.iload_n 0, 1) := by decide +kernel
theorem dJ9_floorMod_7cf53_1 : decode cJ9_floorMod_7cf53 1 = .ok (.iload_n 1, 1) := by decide +kernel
theorem dJ9_floorMod_7cf53_2 : decode cJ9_floorMod_7cf53 2 = .ok (.irem, 1) := by decide +kernel
theorem dJ9_floorMod_7cf53_3 : decode cJ9_floorMod_7cf53 3 = .ok (.istore_n 2, 1) := by decide +kernel
theorem dJ9_floorMod_7cf53_4 : decode cJ9_floorMod_7cf53 4 = .ok (.iload_n 0, 1) := by decide +kernel
theorem dJ9_floorMod_7cf53_5 : decode cJ9_floorMod_7cf53 5 = .ok (.iload_n 1, 1) := by decide +kernel
theorem dJ9_floorMod_7cf53_6 : decode cJ9_floorMod_7cf53 6 = .ok (.ixor, 1) := by decide +kernel
theorem dJ9_floorMod_7cf53_7 : decode cJ9_floorMod_7cf53 7 = .ok (.ifCond .ge 11, 3) := by decide +kernel
theorem dJ9_floorMod_7cf53_10 : decode cJ9_floorMod_7cf53 10 = .ok (.iload_n 2, 1) := by decide +kernel
theorem dJ9_floorMod_7cf53_11 : decode cJ9_floorMod_7cf53 11 = .ok (.ifCond .eq 7, 3) := by decide +kernel
theorem dJ9_floorMod_7cf53_14 : decode cJ9_floorMod_7cf53 14 = .ok (.iload_n 2, 1) := by decide +kernel
theorem dJ9_floorMod_7cf53_15 : decode cJ9_floorMod_7cf53 15 = .ok (.iload_n 1, 1) := by decide +kernel
theorem dJ9_floorMod_7cf53_16 : decode cJ9_floorMod_7cf53 16 = .ok (.iadd, 1) := by decide +kernel
theorem dJ9_floorMod_7cf53_17 : decode cJ9_floorMod_7cf53 17 = .ok (.ireturn, 1) := by decide +kernel
theorem dJ9_floorMod_7cf53_18 : decode cJ9_floorMod_7cf53 18 = .ok (.iload_n 2, 1) := by decide +kernel
theorem dJ9_floorMod_7cf53_19 : decode cJ9_floorMod_7cf53 19 = .ok (.ireturn, 1) := by decide +kernel
def fJ9_floorMod_7cf53 (m : dM) (p0 : Int32) (p1 : Int32) : Option Int32 := dg (decide (¬ p1 = 0)) (dlet (p0 - p0 / p1 * p1 : Int32) (fun v1 => if 0 ≤ (p0 ^^^ p1) then some v1 else if v1 = 0 then some v1 else some (v1 + p1)))
set_option maxHeartbeats 4000000 in
set_option maxRecDepth 100000 in
theorem kJ9_floorMod_7cf53 (l : Launch) (g : dG) {m : dM} {p0 : Int32} {p1 : Int32} {r0 : Int32} (h : fJ9_floorMod_7cf53 m p0 p1 = some r0) : dMet l g yJ9_floorMod_7cf53 wsJ9_floorMod_7cf53 (dRm 0 0) [.int p0, .int p1] m (dQI g r0 m) := by
  refine dof (cc := cJ9_floorMod_7cf53) (maxL := 3) (ret := (some .int)) _ (by decide +kernel) rfl (Nat.le_of_ble_eq_true rfl) ?_
  intro p e s mth below meth c S hr hlk hE H ls hP hS hl
  have S : CallFix p mth c cJ9_floorMod_7cf53 3 s _ wsJ9_floorMod_7cf53 RJ9 := S
  have hl : lv_has ls 3 [(0, .int p0), (1, .int p1)] := hl
  obtain ⟨locs, hlocs⟩ : ∃ z : List Loc, z = [] := ⟨_, rfl⟩
  rw [← hlocs] at hS ⊢
  unfold fJ9_floorMod_7cf53 at h
  refine lv_iload_n S.1 S.2.1 dJ9_floorMod_7cf53_0 rfl (lv_at hl 0 rfl) ?_
  refine lv_iload_n S.1 S.2.1 dJ9_floorMod_7cf53_1 rfl (lv_at hl 1 rfl) ?_
  obtain ⟨hz, h⟩ := d_g h
  refine lv_irem S.1 S.2.1 dJ9_floorMod_7cf53_2 (of_decide_eq_true hz) ?_
  refine lv_topi (fun v1 ev1 => ?_)
  have h := d_let ev1 h
  refine lv_istore_n (lv' := [(2, .int v1), (0, .int p0), (1, .int p1)]) S.1 S.2.1 dJ9_floorMod_7cf53_3 rfl hl (by decide) rfl (fun ls hl => ?_)
  refine lv_iload_n S.1 S.2.1 dJ9_floorMod_7cf53_4 rfl (lv_at hl 1 rfl) ?_
  refine lv_iload_n S.1 S.2.1 dJ9_floorMod_7cf53_5 rfl (lv_at hl 2 rfl) ?_
  refine lv_ixor S.1 S.2.1 dJ9_floorMod_7cf53_6 ?_
  refine lv_if_ge (tgt := 18) S.1 S.2.1 dJ9_floorMod_7cf53_7 (by decide) (fun cq => ?_) (fun cq => ?_)
  · have h := d_t cq h
    refine lv_iload_n S.1 S.2.1 dJ9_floorMod_7cf53_18 rfl (lv_at hl 0 rfl) ?_
    obtain rfl := Option.some.inj h
    exact dti S hr hlk hE hP hS rfl dJ9_floorMod_7cf53_19
  · have h := d_f cq h
    refine lv_iload_n S.1 S.2.1 dJ9_floorMod_7cf53_10 rfl (lv_at hl 0 rfl) ?_
    refine lv_if_eq (tgt := 18) S.1 S.2.1 dJ9_floorMod_7cf53_11 (by decide) (fun cq => ?_) (fun cq => ?_)
    · have h := d_t cq h
      refine lv_iload_n S.1 S.2.1 dJ9_floorMod_7cf53_18 rfl (lv_at hl 0 rfl) ?_
      obtain rfl := Option.some.inj h
      exact dti S hr hlk hE hP hS rfl dJ9_floorMod_7cf53_19
    · have h := d_f cq h
      refine lv_iload_n S.1 S.2.1 dJ9_floorMod_7cf53_14 rfl (lv_at hl 0 rfl) ?_
      refine lv_iload_n S.1 S.2.1 dJ9_floorMod_7cf53_15 rfl (lv_at hl 2 rfl) ?_
      refine lv_iadd S.1 S.2.1 dJ9_floorMod_7cf53_16 ?_
      obtain rfl := Option.some.inj h
      exact dti S hr hlk hE hP hS rfl dJ9_floorMod_7cf53_17
set_option maxRecDepth 20000 in
theorem ggX11_restBy_J9_floorMod_7cf53 : GoodIn wsX11_restBy wsJ9_floorMod_7cf53 := goodIn_r _ [4] (by decide +kernel) (by decide +kernel)
set_option maxRecDepth 20000 in
theorem gX11_restBy_J9_floorMod_7cf53 : GoodIn wsX11_restBy (va_wsS RX11 295 yJ9_floorMod_7cf53 wsJ9_floorMod_7cf53) := goodIn_app (goodIn_of _ (by decide +kernel)) ggX11_restBy_J9_floorMod_7cf53
theorem dX11_restBy_0 : decode cX11_restBy 0 = .ok (.iload_n 1, 1) := by decide +kernel
theorem dX11_restBy_1 : decode cX11_restBy 1 = .ok (.ifCond .le 11, 3) := by decide +kernel
theorem dX11_restBy_4 : decode cX11_restBy 4 = .ok (.iload_n 0, 1) := by decide +kernel
theorem dX11_restBy_5 : decode cX11_restBy 5 = .ok (.iload_n 1, 1) := by decide +kernel
theorem dX11_restBy_6 : decode cX11_restBy 6 = .ok (.invokestatic 295, 3) := by decide +kernel
theorem dX11_restBy_9 : decode cX11_restBy 9 = .ok (.goto 4, 3) := by decide +kernel
theorem dX11_restBy_12 : decode cX11_restBy 12 = .ok (.iconst 0, 1) := by decide +kernel
theorem dX11_restBy_13 : decode cX11_restBy 13 = .ok (.ireturn, 1) := by decide +kernel
def fX11_restBy (m : dM) (p0 : Int32) (p1 : Int32) : Option Int32 := if p1 ≤ 0 then some 0 else (fJ9_floorMod_7cf53 m p0 p1).bind (fun v2 => some v2)
set_option maxHeartbeats 4000000 in
set_option maxRecDepth 100000 in
theorem kX11_restBy (l : Launch) (g : dG) {m : dM} {p0 : Int32} {p1 : Int32} {r0 : Int32} (h : fX11_restBy m p0 p1 = some r0) : dMet l g yX11_restBy wsX11_restBy (dRm 1 22) [.int p0, .int p1] m (dQI g r0 m) := by
  refine dof (cc := cX11_restBy) (maxL := 2) (ret := (some .int)) _ (plainFor_of_name (by decide)) rfl (Nat.le_of_ble_eq_true rfl) ?_
  intro p e s mth below meth c S hr hlk hE H ls hP hS hl
  have S : CallFix p mth c cX11_restBy 2 s _ wsX11_restBy RX11 := S
  have hl : lv_has ls 2 [(0, .int p0), (1, .int p1)] := hl
  obtain ⟨locs, hlocs⟩ : ∃ z : List Loc, z = [] := ⟨_, rfl⟩
  rw [← hlocs] at hS ⊢
  unfold fX11_restBy at h
  refine lv_iload_n S.1 S.2.1 dX11_restBy_0 rfl (lv_at hl 1 rfl) ?_
  refine lv_if_le (tgt := 12) S.1 S.2.1 dX11_restBy_1 (by decide) (fun cq => ?_) (fun cq => ?_)
  · have h := d_t cq h
    refine lv_iconst (v := 0) S.1 S.2.1 dX11_restBy_12 (by decide) ?_
    obtain rfl := Option.some.inj h
    exact dti S hr hlk hE hP hS rfl dX11_restBy_13
  · have h := d_f cq h
    refine lv_iload_n S.1 S.2.1 dX11_restBy_4 rfl (lv_at hl 0 rfl) ?_
    refine lv_iload_n S.1 S.2.1 dX11_restBy_5 rfl (lv_at hl 1 rfl) ?_
    obtain ⟨v2, hc1, h⟩ := d_b h
    refine dri (va_runS (As := [.int p0, .int p1]) (rest := []) S (kJ9_floorMod_7cf53 l g hc1) (va_cwS 2 S.2.2.2.2 gX11_restBy_J9_floorMod_7cf53 rfl rfl rfl ynJ9_floorMod_7cf53 ⟨Nat.le_of_ble_eq_true rfl, Nat.le_of_ble_eq_true rfl⟩) (dpS hE hP hS) rfl rfl hl.1 rfl (lv_room (Nat.le_of_ble_eq_true rfl)) dX11_restBy_6 ⟨Nat.le_of_ble_eq_true rfl, Nat.le_of_ble_eq_true rfl⟩) hS (fun H locs hP hS => ?_)
    refine lv_goto (tgt := 13) S.1 S.2.1 dX11_restBy_9 (by decide) ?_
    obtain rfl := Option.some.inj h
    exact dti S hr hlk hE hP hS rfl dX11_restBy_13
set_option maxRecDepth 20000 in
theorem ggX11_isOnField_X11_isWithin : GoodIn wsX11_isOnField wsX11_isWithin := goodIn_r _ [4] (by decide +kernel) (by decide +kernel)
set_option maxRecDepth 20000 in
theorem gX11_isOnField_X11_isWithin : GoodIn wsX11_isOnField (va_wsS RX11 263 yX11_isWithin wsX11_isWithin) := goodIn_app (goodIn_of _ (by decide +kernel)) ggX11_isOnField_X11_isWithin
theorem dX11_isOnField_0 : decode cX11_isOnField 0 = .ok (.iload_n 0, 1) := by decide +kernel
theorem dX11_isOnField_1 : decode cX11_isOnField 1 = .ok (.iconst 0, 1) := by decide +kernel
theorem dX11_isOnField_2 : decode cX11_isOnField 2 = .ok (.sipush 1600, 3) := by decide +kernel
theorem dX11_isOnField_5 : decode cX11_isOnField 5 = .ok (.invokestatic 263, 3) := by decide +kernel
theorem dX11_isOnField_8 : decode cX11_isOnField 8 = .ok (.ifCond .eq 18, 3) := by decide +kernel
theorem dX11_isOnField_11 : decode cX11_isOnField 11 = .ok (.iload_n 1, 1) := by decide +kernel
theorem dX11_isOnField_12 : decode cX11_isOnField 12 = .ok (.iconst 0, 1) := by decide +kernel
theorem dX11_isOnField_13 : decode cX11_isOnField 13 = .ok (.sipush 840, 3) := by decide +kernel
theorem dX11_isOnField_16 : decode cX11_isOnField 16 = .ok (.invokestatic 263, 3) := by decide +kernel
theorem dX11_isOnField_19 : decode cX11_isOnField 19 = .ok (.ifCond .eq 7, 3) := by decide +kernel
theorem dX11_isOnField_22 : decode cX11_isOnField 22 = .ok (.iconst 1, 1) := by decide +kernel
theorem dX11_isOnField_23 : decode cX11_isOnField 23 = .ok (.goto 4, 3) := by decide +kernel
theorem dX11_isOnField_26 : decode cX11_isOnField 26 = .ok (.iconst 0, 1) := by decide +kernel
theorem dX11_isOnField_27 : decode cX11_isOnField 27 = .ok (.ireturn, 1) := by decide +kernel
def fX11_isOnField (m : dM) (p0 : Int32) (p1 : Int32) : Option Int32 := (fX11_isWithin m p0 0 1600).bind (fun v2 => if v2 = 0 then some 0 else (fX11_isWithin m p1 0 840).bind (fun v4 => if v4 = 0 then some 0 else some 1))
set_option maxHeartbeats 4000000 in
set_option maxRecDepth 100000 in
theorem kX11_isOnField (l : Launch) (g : dG) {m : dM} {p0 : Int32} {p1 : Int32} {r0 : Int32} (h : fX11_isOnField m p0 p1 = some r0) : dMet l g yX11_isOnField wsX11_isOnField (dRm 1 22) [.int p0, .int p1] m (dQI g r0 m) := by
  refine dof (cc := cX11_isOnField) (maxL := 2) (ret := (some .boolean)) _ (plainFor_of_name (by decide)) rfl (Nat.le_of_ble_eq_true rfl) ?_
  intro p e s mth below meth c S hr hlk hE H ls hP hS hl
  have S : CallFix p mth c cX11_isOnField 2 s _ wsX11_isOnField RX11 := S
  have hl : lv_has ls 2 [(0, .int p0), (1, .int p1)] := hl
  obtain ⟨locs, hlocs⟩ : ∃ z : List Loc, z = [] := ⟨_, rfl⟩
  rw [← hlocs] at hS ⊢
  unfold fX11_isOnField at h
  refine lv_iload_n S.1 S.2.1 dX11_isOnField_0 rfl (lv_at hl 0 rfl) ?_
  refine lv_iconst (v := 0) S.1 S.2.1 dX11_isOnField_1 (by decide) ?_
  refine lv_sipush (v := 1600) S.1 S.2.1 dX11_isOnField_2 (by decide) ?_
  obtain ⟨v2, hc1, h⟩ := d_b h
  refine dri (va_runS (As := [.int p0, .int 0, .int 1600]) (rest := []) S (kX11_isWithin l g hc1) (va_cwS 3 S.2.2.2.2 gX11_isOnField_X11_isWithin rfl rfl rfl ynX11_isWithin ⟨Nat.le_of_ble_eq_true rfl, Nat.le_of_ble_eq_true rfl⟩) (dpS hE hP hS) rfl rfl hl.1 rfl (lv_room (Nat.le_of_ble_eq_true rfl)) dX11_isOnField_5 ⟨Nat.le_of_ble_eq_true rfl, Nat.le_of_ble_eq_true rfl⟩) hS (fun H locs hP hS => ?_)
  refine lv_if_eq (tgt := 26) S.1 S.2.1 dX11_isOnField_8 (by decide) (fun cq => ?_) (fun cq => ?_)
  · have h := d_t cq h
    refine lv_iconst (v := 0) S.1 S.2.1 dX11_isOnField_26 (by decide) ?_
    obtain rfl := Option.some.inj h
    exact dti S hr hlk hE hP hS rfl dX11_isOnField_27
  · have h := d_f cq h
    refine lv_iload_n S.1 S.2.1 dX11_isOnField_11 rfl (lv_at hl 1 rfl) ?_
    refine lv_iconst (v := 0) S.1 S.2.1 dX11_isOnField_12 (by decide) ?_
    refine lv_sipush (v := 840) S.1 S.2.1 dX11_isOnField_13 (by decide) ?_
    obtain ⟨v4, hc3, h⟩ := d_b h
    refine dri (va_runS (As := [.int p1, .int 0, .int 840]) (rest := []) S (kX11_isWithin l g hc3) (va_cwS 3 S.2.2.2.2 gX11_isOnField_X11_isWithin rfl rfl rfl ynX11_isWithin ⟨Nat.le_of_ble_eq_true rfl, Nat.le_of_ble_eq_true rfl⟩) (dpS hE hP hS) rfl rfl hl.1 rfl (lv_room (Nat.le_of_ble_eq_true rfl)) dX11_isOnField_16 ⟨Nat.le_of_ble_eq_true rfl, Nat.le_of_ble_eq_true rfl⟩) hS (fun H locs hP hS => ?_)
    refine lv_if_eq (tgt := 26) S.1 S.2.1 dX11_isOnField_19 (by decide) (fun cq => ?_) (fun cq => ?_)
    · have h := d_t cq h
      refine lv_iconst (v := 0) S.1 S.2.1 dX11_isOnField_26 (by decide) ?_
      obtain rfl := Option.some.inj h
      exact dti S hr hlk hE hP hS rfl dX11_isOnField_27
    · have h := d_f cq h
      refine lv_iconst (v := 1) S.1 S.2.1 dX11_isOnField_22 (by decide) ?_
      refine lv_goto (tgt := 27) S.1 S.2.1 dX11_isOnField_23 (by decide) ?_
      obtain rfl := Option.some.inj h
      exact dti S hr hlk hE hP hS rfl dX11_isOnField_27
set_option maxRecDepth 20000 in
theorem ggX11_nearestLine_X11_downBy : GoodIn wsX11_nearestLine wsX11_downBy := goodIn_r _ [4, 5, 6, 7, 8] (by decide +kernel) (by decide +kernel)
set_option maxRecDepth 20000 in
theorem gX11_nearestLine_X11_downBy : GoodIn wsX11_nearestLine (va_wsS RX11 286 yX11_downBy wsX11_downBy) := goodIn_app (goodIn_of _ (by decide +kernel)) ggX11_nearestLine_X11_downBy
theorem dX11_nearestLine_0 : decode cX11_nearestLine 0 = .ok (.iload_n 0, 1) := by decide +kernel
theorem dX11_nearestLine_1 : decode cX11_nearestLine 1 = .ok (.bipush 40, 2) := by decide +kernel
theorem dX11_nearestLine_3 : decode cX11_nearestLine 3 = .ok (.iadd, 1) := by decide +kernel
theorem dX11_nearestLine_4 : decode cX11_nearestLine 4 = .ok (.bipush 80, 2) := by decide +kernel
theorem dX11_nearestLine_6 : decode cX11_nearestLine 6 = .ok (.invokestatic 286, 3) := by decide +kernel
theorem dX11_nearestLine_9 : decode cX11_nearestLine 9 = .ok (.ireturn, 1) := by decide +kernel
def fX11_nearestLine (m : dM) (p0 : Int32) : Option Int32 := (fX11_downBy m (p0 + 40) 80).bind (fun v2 => some v2)
set_option maxHeartbeats 4000000 in
set_option maxRecDepth 100000 in
theorem kX11_nearestLine (l : Launch) (g : dG) {m : dM} {p0 : Int32} {r0 : Int32} (h : fX11_nearestLine m p0 = some r0) : dMet l g yX11_nearestLine wsX11_nearestLine (dRm 2 43) [.int p0] m (dQI g r0 m) := by
  refine dof (cc := cX11_nearestLine) (maxL := 1) (ret := (some .int)) _ (plainFor_of_name (by decide)) rfl (Nat.le_of_ble_eq_true rfl) ?_
  intro p e s mth below meth c S hr hlk hE H ls hP hS hl
  have S : CallFix p mth c cX11_nearestLine 1 s _ wsX11_nearestLine RX11 := S
  have hl : lv_has ls 1 [(0, .int p0)] := hl
  obtain ⟨locs, hlocs⟩ : ∃ z : List Loc, z = [] := ⟨_, rfl⟩
  rw [← hlocs] at hS ⊢
  unfold fX11_nearestLine at h
  refine lv_iload_n S.1 S.2.1 dX11_nearestLine_0 rfl (lv_at hl 0 rfl) ?_
  refine lv_bipush (v := 40) S.1 S.2.1 dX11_nearestLine_1 (by decide) ?_
  refine lv_iadd S.1 S.2.1 dX11_nearestLine_3 ?_
  refine lv_bipush (v := 80) S.1 S.2.1 dX11_nearestLine_4 (by decide) ?_
  obtain ⟨v2, hc1, h⟩ := d_b h
  refine dri (va_runS (As := [.int (p0 + 40), .int 80]) (rest := []) S (kX11_downBy l g hc1) (va_cwS 2 S.2.2.2.2 gX11_nearestLine_X11_downBy rfl rfl rfl ynX11_downBy ⟨Nat.le_of_ble_eq_true rfl, Nat.le_of_ble_eq_true rfl⟩) (dpS hE hP hS) rfl rfl hl.1 rfl (lv_room (Nat.le_of_ble_eq_true rfl)) dX11_nearestLine_6 ⟨Nat.le_of_ble_eq_true rfl, Nat.le_of_ble_eq_true rfl⟩) hS (fun H locs hP hS => ?_)
  obtain rfl := Option.some.inj h
  exact dti S hr hlk hE hP hS rfl dX11_nearestLine_9
set_option maxRecDepth 20000 in
theorem ggX11_nearestRow_X11_downBy : GoodIn wsX11_nearestRow wsX11_downBy := goodIn_r _ [4, 5, 6, 7, 8] (by decide +kernel) (by decide +kernel)
set_option maxRecDepth 20000 in
theorem gX11_nearestRow_X11_downBy : GoodIn wsX11_nearestRow (va_wsS RX11 286 yX11_downBy wsX11_downBy) := goodIn_app (goodIn_of _ (by decide +kernel)) ggX11_nearestRow_X11_downBy
theorem dX11_nearestRow_0 : decode cX11_nearestRow 0 = .ok (.iload_n 0, 1) := by decide +kernel
theorem dX11_nearestRow_1 : decode cX11_nearestRow 1 = .ok (.sipush 140, 3) := by decide +kernel
theorem dX11_nearestRow_4 : decode cX11_nearestRow 4 = .ok (.iadd, 1) := by decide +kernel
theorem dX11_nearestRow_5 : decode cX11_nearestRow 5 = .ok (.iconst 1, 1) := by decide +kernel
theorem dX11_nearestRow_6 : decode cX11_nearestRow 6 = .ok (.isub, 1) := by decide +kernel
theorem dX11_nearestRow_7 : decode cX11_nearestRow 7 = .ok (.sipush 280, 3) := by decide +kernel
theorem dX11_nearestRow_10 : decode cX11_nearestRow 10 = .ok (.invokestatic 286, 3) := by decide +kernel
theorem dX11_nearestRow_13 : decode cX11_nearestRow 13 = .ok (.ireturn, 1) := by decide +kernel
def fX11_nearestRow (m : dM) (p0 : Int32) : Option Int32 := (fX11_downBy m ((p0 + 140) - 1) 280).bind (fun v2 => some v2)
set_option maxHeartbeats 4000000 in
set_option maxRecDepth 100000 in
theorem kX11_nearestRow (l : Launch) (g : dG) {m : dM} {p0 : Int32} {r0 : Int32} (h : fX11_nearestRow m p0 = some r0) : dMet l g yX11_nearestRow wsX11_nearestRow (dRm 2 43) [.int p0] m (dQI g r0 m) := by
  refine dof (cc := cX11_nearestRow) (maxL := 1) (ret := (some .int)) _ (plainFor_of_name (by decide)) rfl (Nat.le_of_ble_eq_true rfl) ?_
  intro p e s mth below meth c S hr hlk hE H ls hP hS hl
  have S : CallFix p mth c cX11_nearestRow 1 s _ wsX11_nearestRow RX11 := S
  have hl : lv_has ls 1 [(0, .int p0)] := hl
  obtain ⟨locs, hlocs⟩ : ∃ z : List Loc, z = [] := ⟨_, rfl⟩
  rw [← hlocs] at hS ⊢
  unfold fX11_nearestRow at h
  refine lv_iload_n S.1 S.2.1 dX11_nearestRow_0 rfl (lv_at hl 0 rfl) ?_
  refine lv_sipush (v := 140) S.1 S.2.1 dX11_nearestRow_1 (by decide) ?_
  refine lv_iadd S.1 S.2.1 dX11_nearestRow_4 ?_
  refine lv_iconst (v := 1) S.1 S.2.1 dX11_nearestRow_5 (by decide) ?_
  refine lv_isub S.1 S.2.1 dX11_nearestRow_6 ?_
  refine lv_sipush (v := 280) S.1 S.2.1 dX11_nearestRow_7 (by decide) ?_
  obtain ⟨v2, hc1, h⟩ := d_b h
  refine dri (va_runS (As := [.int ((p0 + 140) - 1), .int 280]) (rest := []) S (kX11_downBy l g hc1) (va_cwS 2 S.2.2.2.2 gX11_nearestRow_X11_downBy rfl rfl rfl ynX11_downBy ⟨Nat.le_of_ble_eq_true rfl, Nat.le_of_ble_eq_true rfl⟩) (dpS hE hP hS) rfl rfl hl.1 rfl (lv_room (Nat.le_of_ble_eq_true rfl)) dX11_nearestRow_10 ⟨Nat.le_of_ble_eq_true rfl, Nat.le_of_ble_eq_true rfl⟩) hS (fun H locs hP hS => ?_)
  obtain rfl := Option.some.inj h
  exact dti S hr hlk hE hP hS rfl dX11_nearestRow_13
theorem dX11_rootDown_0 : decode cX11_rootDown 0 = .ok (.iconst 0, 1) := by decide +kernel
theorem dX11_rootDown_1 : decode cX11_rootDown 1 = .ok (.istore_n 1, 1) := by decide +kernel
theorem dX11_rootDown_2 : decode cX11_rootDown 2 = .ok (.sipush 2048, 3) := by decide +kernel
theorem dX11_rootDown_5 : decode cX11_rootDown 5 = .ok (.istore_n 2, 1) := by decide +kernel
theorem dX11_rootDown_6 : decode cX11_rootDown 6 = .ok (.iload_n 2, 1) := by decide +kernel
theorem dX11_rootDown_7 : decode cX11_rootDown 7 = .ok (.ifCond .le 23, 3) := by decide +kernel
theorem dX11_rootDown_10 : decode cX11_rootDown 10 = .ok (.iload_n 1, 1) := by decide +kernel
theorem dX11_rootDown_11 : decode cX11_rootDown 11 = .ok (.iload_n 2, 1) := by decide +kernel
theorem dX11_rootDown_12 : decode cX11_rootDown 12 = .ok (.iadd, 1) := by decide +kernel
theorem dX11_rootDown_13 : decode cX11_rootDown 13 = .ok (.istore_n 3, 1) := by decide +kernel
theorem dX11_rootDown_14 : decode cX11_rootDown 14 = .ok (.iload_n 3, 1) := by decide +kernel
theorem dX11_rootDown_15 : decode cX11_rootDown 15 = .ok (.iload_n 3, 1) := by decide +kernel
theorem dX11_rootDown_16 : decode cX11_rootDown 16 = .ok (.imul, 1) := by decide +kernel
theorem dX11_rootDown_17 : decode cX11_rootDown 17 = .ok (.iload_n 0, 1) := by decide +kernel
theorem dX11_rootDown_18 : decode cX11_rootDown 18 = .ok (.if_icmp .gt 5, 3) := by decide +kernel
theorem dX11_rootDown_21 : decode cX11_rootDown 21 = .ok (.iload_n 3, 1) := by decide +kernel
theorem dX11_rootDown_22 : decode cX11_rootDown 22 = .ok (.istore_n 1, 1) := by decide +kernel
theorem dX11_rootDown_23 : decode cX11_rootDown 23 = .ok (.iload_n 2, 1) := by decide +kernel
theorem dX11_rootDown_24 : decode cX11_rootDown 24 = .ok (.iconst 1, 1) := by decide +kernel
theorem dX11_rootDown_25 : decode cX11_rootDown 25 = .ok (.ishr, 1) := by decide +kernel
theorem dX11_rootDown_26 : decode cX11_rootDown 26 = .ok (.istore_n 2, 1) := by decide +kernel
theorem dX11_rootDown_27 : decode cX11_rootDown 27 = .ok (.goto (-21), 3) := by decide +kernel
theorem dX11_rootDown_30 : decode cX11_rootDown 30 = .ok (.iload_n 1, 1) := by decide +kernel
theorem dX11_rootDown_31 : decode cX11_rootDown 31 = .ok (.ireturn, 1) := by decide +kernel
def fX11_rootDown_l6 (p0 : Int32) (v2 : Int32) (v3 : Int32) : Option ((Int32 × Int32) ⊕ Int32) := if v2 ≤ 0 then some (.inr v3) else dlet (v3 + v2 : Int32) (fun v7 => if p0 < (v7 * v7) then dlet (v2 >>> (1 &&& 31) : Int32) (fun v8 => some (.inl (v8, v3))) else dlet (v2 >>> (1 &&& 31) : Int32) (fun v9 => some (.inl (v9, v7))))
def fX11_rootDown (m : dM) (p0 : Int32) : Option Int32 := (dlp (fun q => dP2 q (fun v2 v3 => fX11_rootDown_l6 p0 v2 v3)) dFl (2048, 0)).bind (fun q => dP1 q (fun v10 => some v10))
set_option maxHeartbeats 4000000 in
set_option maxRecDepth 100000 in
theorem kX11_rootDown (l : Launch) (g : dG) {m : dM} {p0 : Int32} {r0 : Int32} (h : fX11_rootDown m p0 = some r0) : dMet l g yX11_rootDown wsX11_rootDown (dRm 0 0) [.int p0] m (dQI g r0 m) := by
  refine dof (cc := cX11_rootDown) (maxL := 4) (ret := (some .int)) _ (plainFor_of_name (by decide)) rfl (Nat.le_of_ble_eq_true rfl) ?_
  intro p e s mth below meth c S hr hlk hE H ls hP hS hl
  have S : CallFix p mth c cX11_rootDown 4 s _ wsX11_rootDown RX11 := S
  have hl : lv_has ls 4 [(0, .int p0)] := hl
  obtain ⟨locs, hlocs⟩ : ∃ z : List Loc, z = [] := ⟨_, rfl⟩
  rw [← hlocs] at hS ⊢
  unfold fX11_rootDown at h
  refine lv_iconst (v := 0) S.1 S.2.1 dX11_rootDown_0 (by decide) ?_
  refine lv_istore_n (lv' := [(1, .int 0), (0, .int p0)]) S.1 S.2.1 dX11_rootDown_1 rfl hl (by decide) rfl (fun ls hl => ?_)
  refine lv_sipush (v := 2048) S.1 S.2.1 dX11_rootDown_2 (by decide) ?_
  refine lv_istore_n (lv' := [(2, .int 2048), (1, .int 0), (0, .int p0)]) S.1 S.2.1 dX11_rootDown_5 rfl hl (by decide) rfl (fun ls hl => ?_)
  obtain ⟨qL1, hqL1, h⟩ := d_b h
  refine d_lp (Hd := fun q => match q with | (v2, v3) => ∀ (H : Heap) (locs : List Loc) (ls : Array Slot), va_P g.1 vwCl (dws g m) H → va_S (dA g) s.heap H locs → lv_has ls 4 [(2, .int v2), (1, .int v3), (0, .int p0)] → W p l e (headSpec wsX11_rootDown (dRm 0 0)).room s mth (([.int p0] : List Value).toArray) below meth c H locs 0 0 (MQ below (dQI g r0 m) (([.int p0] : List Value).toArray) s 0 0 (dA g)) (F0 mth 6 ls [])) (K := fun q => (fun (v10 : _) => ∀ (H : Heap) (locs : List Loc) (ls : Array Slot), va_P g.1 vwCl (dws g m) H → va_S (dA g) s.heap H locs → lv_has ls 4 [(1, .int v10)] → W p l e (headSpec wsX11_rootDown (dRm 0 0)).room s mth (([.int p0] : List Value).toArray) below meth c H locs 0 0 (MQ below (dQI g r0 m) (([.int p0] : List Value).toArray) s 0 0 (dA g)) (F0 mth 30 ls [])) q) ?_ dFl _ qL1 hqL1 ?_ H locs ls hP hS (lv_sub hl [0, 1, 2] rfl)
  · intro q o h hCL1 hEL1
    obtain ⟨v2, v3⟩ := q
    have h : fX11_rootDown_l6 p0 v2 v3 = some o := h
    intro H locs ls hP hS hl
    have hP : va_P g.1 vwCl (dws g m) H := hP
    have hl : lv_has ls 4 [(2, .int v2), (1, .int v3), (0, .int p0)] := hl
    unfold fX11_rootDown_l6 at h
    refine lv_iload_n S.1 S.2.1 dX11_rootDown_6 rfl (lv_at hl 0 rfl) ?_
    refine lv_if_le (tgt := 30) S.1 S.2.1 dX11_rootDown_7 (by decide) (fun cq => ?_) (fun cq => ?_)
    · have h := d_t cq h
      obtain rfl := Option.some.inj h
      exact hEL1 _ rfl H locs ls hP hS (lv_sub hl [1] rfl)
    · have h := d_f cq h
      refine lv_iload_n S.1 S.2.1 dX11_rootDown_10 rfl (lv_at hl 1 rfl) ?_
      refine lv_iload_n S.1 S.2.1 dX11_rootDown_11 rfl (lv_at hl 0 rfl) ?_
      refine lv_iadd S.1 S.2.1 dX11_rootDown_12 ?_
      refine lv_topi (fun v7 ev7 => ?_)
      have h := d_let ev7 h
      refine lv_istore_n (lv' := [(3, .int v7), (2, .int v2), (1, .int v3), (0, .int p0)]) S.1 S.2.1 dX11_rootDown_13 rfl hl (by decide) rfl (fun ls hl => ?_)
      refine lv_iload_n S.1 S.2.1 dX11_rootDown_14 rfl (lv_at hl 0 rfl) ?_
      refine lv_iload_n S.1 S.2.1 dX11_rootDown_15 rfl (lv_at hl 0 rfl) ?_
      refine lv_imul S.1 S.2.1 dX11_rootDown_16 ?_
      refine lv_iload_n S.1 S.2.1 dX11_rootDown_17 rfl (lv_at hl 3 rfl) ?_
      refine lv_icmp_gt (tgt := 23) S.1 S.2.1 dX11_rootDown_18 (by decide) (fun cq => ?_) (fun cq => ?_)
      · have h := d_t cq h
        refine lv_iload_n S.1 S.2.1 dX11_rootDown_23 rfl (lv_at hl 1 rfl) ?_
        refine lv_iconst (v := 1) S.1 S.2.1 dX11_rootDown_24 (by decide) ?_
        refine lv_ishr S.1 S.2.1 dX11_rootDown_25 ?_
        refine lv_topi (fun v8 ev8 => ?_)
        have h := d_let ev8 h
        refine lv_istore_n (lv' := [(2, .int v8), (3, .int v7), (1, .int v3), (0, .int p0)]) S.1 S.2.1 dX11_rootDown_26 rfl hl (by decide) rfl (fun ls hl => ?_)
        refine lv_goto (tgt := 6) S.1 S.2.1 dX11_rootDown_27 (by decide) ?_
        obtain rfl := Option.some.inj h
        exact hCL1 _ rfl H locs ls hP hS (lv_sub hl [0, 2, 3] rfl)
      · have h := d_f cq h
        refine lv_iload_n S.1 S.2.1 dX11_rootDown_21 rfl (lv_at hl 0 rfl) ?_
        refine lv_istore_n (lv' := [(1, .int v7), (3, .int v7), (2, .int v2), (0, .int p0)]) S.1 S.2.1 dX11_rootDown_22 rfl hl (by decide) rfl (fun ls hl => ?_)
        refine lv_iload_n S.1 S.2.1 dX11_rootDown_23 rfl (lv_at hl 2 rfl) ?_
        refine lv_iconst (v := 1) S.1 S.2.1 dX11_rootDown_24 (by decide) ?_
        refine lv_ishr S.1 S.2.1 dX11_rootDown_25 ?_
        refine lv_topi (fun v9 ev9 => ?_)
        have h := d_let ev9 h
        refine lv_istore_n (lv' := [(2, .int v9), (1, .int v7), (3, .int v7), (0, .int p0)]) S.1 S.2.1 dX11_rootDown_26 rfl hl (by decide) rfl (fun ls hl => ?_)
        refine lv_goto (tgt := 6) S.1 S.2.1 dX11_rootDown_27 (by decide) ?_
        obtain rfl := Option.some.inj h
        exact hCL1 _ rfl H locs ls hP hS (lv_sub hl [0, 1, 3] rfl)
  · obtain ⟨v10, rfl⟩ : ∃ z, z = qL1 := ⟨_, rfl⟩
    have h := d_p1 h
    intro H locs ls hP hS hl
    have hP : va_P g.1 vwCl (dws g m) H := hP
    have hl : lv_has ls 4 [(1, .int v10)] := hl
    refine lv_iload_n S.1 S.2.1 dX11_rootDown_30 rfl (lv_at hl 0 rfl) ?_
    obtain rfl := Option.some.inj h
    exact dti S hr hlk hE hP hS rfl dX11_rootDown_31
set_option maxRecDepth 20000 in
theorem ggX11_withRests_X11_downBy : GoodIn wsX11_withRests wsX11_downBy := goodIn_r _ [4, 5, 6, 7, 8] (by decide +kernel) (by decide +kernel)
set_option maxRecDepth 20000 in
theorem gX11_withRests_X11_downBy : GoodIn wsX11_withRests (va_wsS RX11 286 yX11_downBy wsX11_downBy) := goodIn_app (goodIn_of _ (by decide +kernel)) ggX11_withRests_X11_downBy
theorem dX11_withRests_0 : decode cX11_withRests 0 = .ok (.iload_n 0, 1) := by decide +kernel
theorem dX11_withRests_1 : decode cX11_withRests 1 = .ok (.iload_n 2, 1) := by decide +kernel
theorem dX11_withRests_2 : decode cX11_withRests 2 = .ok (.iload_n 0, 1) := by decide +kernel
theorem dX11_withRests_3 : decode cX11_withRests 3 = .ok (.iconst 1, 1) := by decide +kernel
theorem dX11_withRests_4 : decode cX11_withRests 4 = .ok (.isub, 1) := by decide +kernel
theorem dX11_withRests_5 : decode cX11_withRests 5 = .ok (.iload_n 1, 1) := by decide +kernel
theorem dX11_withRests_6 : decode cX11_withRests 6 = .ok (.invokestatic 286, 3) := by decide +kernel
theorem dX11_withRests_9 : decode cX11_withRests 9 = .ok (.imul, 1) := by decide +kernel
theorem dX11_withRests_10 : decode cX11_withRests 10 = .ok (.iadd, 1) := by decide +kernel
theorem dX11_withRests_11 : decode cX11_withRests 11 = .ok (.ireturn, 1) := by decide +kernel
def fX11_withRests (m : dM) (p0 : Int32) (p1 : Int32) (p2 : Int32) : Option Int32 := (fX11_downBy m (p0 - 1) p1).bind (fun v2 => some (p0 + (p2 * v2)))
set_option maxHeartbeats 4000000 in
set_option maxRecDepth 100000 in
theorem kX11_withRests (l : Launch) (g : dG) {m : dM} {p0 : Int32} {p1 : Int32} {p2 : Int32} {r0 : Int32} (h : fX11_withRests m p0 p1 p2 = some r0) : dMet l g yX11_withRests wsX11_withRests (dRm 2 43) [.int p0, .int p1, .int p2] m (dQI g r0 m) := by
  refine dof (cc := cX11_withRests) (maxL := 3) (ret := (some .int)) _ (plainFor_of_name (by decide)) rfl (Nat.le_of_ble_eq_true rfl) ?_
  intro p e s mth below meth c S hr hlk hE H ls hP hS hl
  have S : CallFix p mth c cX11_withRests 3 s _ wsX11_withRests RX11 := S
  have hl : lv_has ls 3 [(0, .int p0), (1, .int p1), (2, .int p2)] := hl
  obtain ⟨locs, hlocs⟩ : ∃ z : List Loc, z = [] := ⟨_, rfl⟩
  rw [← hlocs] at hS ⊢
  unfold fX11_withRests at h
  refine lv_iload_n S.1 S.2.1 dX11_withRests_0 rfl (lv_at hl 0 rfl) ?_
  refine lv_iload_n S.1 S.2.1 dX11_withRests_1 rfl (lv_at hl 2 rfl) ?_
  refine lv_iload_n S.1 S.2.1 dX11_withRests_2 rfl (lv_at hl 0 rfl) ?_
  refine lv_iconst (v := 1) S.1 S.2.1 dX11_withRests_3 (by decide) ?_
  refine lv_isub S.1 S.2.1 dX11_withRests_4 ?_
  refine lv_iload_n S.1 S.2.1 dX11_withRests_5 rfl (lv_at hl 1 rfl) ?_
  obtain ⟨v2, hc1, h⟩ := d_b h
  refine dri (va_runS (As := [.int (p0 - 1), .int p1]) (rest := [.int p2, .int p0]) S (kX11_downBy l g hc1) (va_cwS 2 S.2.2.2.2 gX11_withRests_X11_downBy rfl rfl rfl ynX11_downBy ⟨Nat.le_of_ble_eq_true rfl, Nat.le_of_ble_eq_true rfl⟩) (dpS hE hP hS) rfl rfl hl.1 rfl (lv_room (Nat.le_of_ble_eq_true rfl)) dX11_withRests_6 ⟨Nat.le_of_ble_eq_true rfl, Nat.le_of_ble_eq_true rfl⟩) hS (fun H locs hP hS => ?_)
  refine lv_imul S.1 S.2.1 dX11_withRests_9 ?_
  refine lv_iadd S.1 S.2.1 dX11_withRests_10 ?_
  obtain rfl := Option.some.inj h
  exact dti S hr hlk hE hP hS rfl dX11_withRests_11
