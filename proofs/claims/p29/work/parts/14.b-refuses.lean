theorem ynL_fault : yL_fault.cls ≠ "java/lang/invoke/MethodHandle" ∧ yL_fault.cls ≠ "java/lang/invoke/VarHandle" ∧ (parseMethodDescriptor yL_fault.desc).map (fun d => d.parameters.length) = some 6 := by decide +kernel
set_option maxRecDepth 20000 in
theorem ggL_fault_X11_fault : GoodIn wsL_fault wsX11_fault := goodIn_ca (goodIn_ca (goodIn_s _ [5, 6, 7, 8, 9, 10, 11, 4, 12, 13, 14, 15, 16, 17, 18, 19, 20, 21, 22, 23, 24, 25, 26, 27, 28, 29, 30, 31, 32, 33, 34, 35, 36, 37, 38, 39, 40, 41, 42, 43, 44, 45, 46, 47, 48, 49, 50, 51, 52, 53, 54, 55, 56, 57, 58, 59, 60, 61, 62, 63, 64, 65, 66, 67, 68, 69, 70, 71, 72, 73, 74, 75, 76, 77, 78, 79, 80, 81, 82, 83, 84, 85, 86, 87, 88, 89, 90, 91, 92, 93, 94, 95, 96, 97, 98, 99, 100, 101, 102, 103, 104, 105, 106, 107, 108, 109, 110, 111, 112, 113, 114, 115, 116, 117, 118, 119, 120, 121, 122, 123, 124, 125, 126, 127, 128, 129, 130, 131, 132, 133, 134, 135, 136, 137, 138, 139, 140, 141, 142, 143, 144, 145, 146, 147, 148, 149, 150, 151, 152, 153, 154, 155, 156, 157, 158, 159, 160, 161, 162, 163, 164, 165, 166, 167, 168, 169, 170, 171, 172, 173, 174, 175, 176, 177, 178, 179, 180, 181, 182, 183, 184, 185, 186, 187, 188, 189, 190, 191, 192, 193, 194, 195, 196, 197, 198, 199, 200, 201, 202, 203, 204, 205, 206] (by decide +kernel) (by decide +kernel)) (goodIn_sub (fun _ h => List.mem_cons_of_mem _ (List.mem_append_left _ (List.mem_append_right _ h))) (by decide +kernel))) (goodIn_sub (fun _ h => List.mem_cons_of_mem _ (List.mem_append_right _ h)) (by decide +kernel))
set_option maxRecDepth 20000 in
theorem gL_fault_X11_fault : GoodIn wsL_fault (wsV RL 73 RX11 yX11_fault wsX11_fault) := goodIn_app (goodIn_of _ (by decide +kernel)) ggL_fault_X11_fault
theorem dL_fault_0 : decode cL_fault 0 = .ok (.aload_n 0, 1) := by decide +kernel
theorem dL_fault_1 : decode cL_fault 1 = .ok (.iload_n 1, 1) := by decide +kernel
theorem dL_fault_2 : decode cL_fault 2 = .ok (.iconst 0, 1) := by decide +kernel
theorem dL_fault_3 : decode cL_fault 3 = .ok (.invokevirtual 73, 3) := by decide +kernel
theorem dL_fault_6 : decode cL_fault 6 = .ok (.iload_n 2, 1) := by decide +kernel
theorem dL_fault_7 : decode cL_fault 7 = .ok (.if_icmp .ne 39, 3) := by decide +kernel
theorem dL_fault_10 : decode cL_fault 10 = .ok (.aload_n 0, 1) := by decide +kernel
theorem dL_fault_11 : decode cL_fault 11 = .ok (.iload_n 1, 1) := by decide +kernel
theorem dL_fault_12 : decode cL_fault 12 = .ok (.iconst 1, 1) := by decide +kernel
theorem dL_fault_13 : decode cL_fault 13 = .ok (.invokevirtual 73, 3) := by decide +kernel
theorem dL_fault_16 : decode cL_fault 16 = .ok (.iload_n 3, 1) := by decide +kernel
theorem dL_fault_17 : decode cL_fault 17 = .ok (.if_icmp .ne 29, 3) := by decide +kernel
theorem dL_fault_20 : decode cL_fault 20 = .ok (.aload_n 0, 1) := by decide +kernel
theorem dL_fault_21 : decode cL_fault 21 = .ok (.iload_n 1, 1) := by decide +kernel
theorem dL_fault_22 : decode cL_fault 22 = .ok (.iconst 2, 1) := by decide +kernel
theorem dL_fault_23 : decode cL_fault 23 = .ok (.invokevirtual 73, 3) := by decide +kernel
theorem dL_fault_26 : decode cL_fault 26 = .ok (.iload 4, 2) := by decide +kernel
theorem dL_fault_28 : decode cL_fault 28 = .ok (.if_icmp .ne 18, 3) := by decide +kernel
theorem dL_fault_31 : decode cL_fault 31 = .ok (.aload_n 0, 1) := by decide +kernel
theorem dL_fault_32 : decode cL_fault 32 = .ok (.iload_n 1, 1) := by decide +kernel
theorem dL_fault_33 : decode cL_fault 33 = .ok (.iconst 3, 1) := by decide +kernel
theorem dL_fault_34 : decode cL_fault 34 = .ok (.invokevirtual 73, 3) := by decide +kernel
theorem dL_fault_37 : decode cL_fault 37 = .ok (.iload 5, 2) := by decide +kernel
theorem dL_fault_39 : decode cL_fault 39 = .ok (.if_icmp .ne 7, 3) := by decide +kernel
theorem dL_fault_42 : decode cL_fault 42 = .ok (.iconst 1, 1) := by decide +kernel
theorem dL_fault_43 : decode cL_fault 43 = .ok (.goto 4, 3) := by decide +kernel
theorem dL_fault_46 : decode cL_fault 46 = .ok (.iconst 0, 1) := by decide +kernel
theorem dL_fault_47 : decode cL_fault 47 = .ok (.ireturn, 1) := by decide +kernel
def fL_fault (m : dM) (p1 : Int32) (p2 : Int32) (p3 : Int32) (p4 : Int32) (p5 : Int32) : Option dM := (fX11_fault m 0 p1 0).bind (fun q => dS q (fun _ => none) (fun q => dP2 q (fun v3 m2 => if v3 = p2 then (fX11_fault m2 0 p1 1).bind (fun q => dS q (fun _ => none) (fun q => dP2 q (fun v7 m6 => if v7 = p3 then (fX11_fault m6 0 p1 2).bind (fun q => dS q (fun _ => none) (fun q => dP2 q (fun v11 m10 => if v11 = p4 then (fX11_fault m10 0 p1 3).bind (fun q => dS q (fun _ => none) (fun q => dP2 q (fun v15 m14 => if v15 = p5 then some m14 else none))) else none))) else none))) else none)))
set_option maxHeartbeats 4000000 in
set_option maxRecDepth 100000 in
theorem kL_fault (l : Launch) (g : dG) (hst : l.stackTraces = false) {m : dM} {p1 : Int32} {p2 : Int32} {p3 : Int32} {p4 : Int32} {p5 : Int32} {m0 : dM} (h : fL_fault m p1 p2 p3 p4 p5 = some m0) : dLMet l g yL_fault wsL_fault 9 168 8 [.ref (dad g 0), .int p1, .int p2, .int p3, .int p4, .int p5] m 1 m0 := by
  refine dPof (cc := cL_fault) (maxL := 6) (ret := (some .boolean)) _ (by decide) rfl (Nat.le_of_ble_eq_true rfl) ?_
  intro p e s mth below meth c S hr hlk hE H ls hP hS hl
  have S : CallFix p mth c cL_fault 6 s (([.ref (dad g 0), .int p1, .int p2, .int p3, .int p4, .int p5] : List Value).toArray) wsL_fault RL := S
  have hl : lv_has ls 6 [(0, .ref (dad g 0)), (1, .int p1), (2, .int p2), (3, .int p3), (4, .int p4), (5, .int p5)] := hl
  obtain ⟨locs, hlocs⟩ : ∃ z : List Loc, z = [] := ⟨_, rfl⟩
  rw [← hlocs] at hS ⊢
  have hR1 : 0 + 8 ≤ (headSpec wsL_fault (dXm 9 168 8)).room.cells := (Nat.le_of_ble_eq_true rfl)
  have hR2 : 0 + 48 ≤ (headSpec wsL_fault (dXm 9 168 8)).room.slots := (Nat.le_of_ble_eq_true rfl)
  unfold fL_fault at h
  refine lv_aload_n S.1 S.2.1 dL_fault_0 rfl (lv_at hl 0 rfl) ?_
  refine lv_iload_n S.1 S.2.1 dL_fault_1 rfl (lv_at hl 1 rfl) ?_
  refine lv_iconst (v := 0) S.1 S.2.1 dL_fault_2 (by decide) ?_
  obtain ⟨q4, hc1, h⟩ := d_b h
  rcases q4 with q4 | q4
  · have h := d_s1 h
    cases h
  obtain ⟨v3, m2⟩ := q4
  have h := d_s2 h
  have h := d_p2 h
  refine doxi (vx_runV (As := [.int p1, .int 0]) (rest := []) S (kX11_fault l g hst hc1) (cwV 2 S.2.2.2.2 gL_fault_X11_fault rfl rfl rfl ynX11_fault ⟨(Nat.le_of_ble_eq_true rfl), (Nat.le_of_ble_eq_true rfl)⟩) (dpV hE hP hS (ci := 11) rfl (dat12 dk_0)) rfl rfl hl.1 rfl (lv_room (Nat.le_of_ble_eq_true rfl)) dL_fault_3 ⟨by omega, by omega⟩) rfl hS (fun H locs hP hS => ?_)
  refine lv_iload_n S.1 S.2.1 dL_fault_6 rfl (lv_at hl 2 rfl) ?_
  refine lv_icmp_ne (tgt := 46) S.1 S.2.1 dL_fault_7 (by decide) (fun cq => ?_) (fun cq => ?_)
  · have h := d_f cq h
    cases h
  · have h := d_t cq h
    refine lv_aload_n S.1 S.2.1 dL_fault_10 rfl (lv_at hl 0 rfl) ?_
    refine lv_iload_n S.1 S.2.1 dL_fault_11 rfl (lv_at hl 1 rfl) ?_
    refine lv_iconst (v := 1) S.1 S.2.1 dL_fault_12 (by decide) ?_
    obtain ⟨q8, hc5, h⟩ := d_b h
    rcases q8 with q8 | q8
    · have h := d_s1 h
      cases h
    obtain ⟨v7, m6⟩ := q8
    have h := d_s2 h
    have h := d_p2 h
    refine doxi (vx_runV (As := [.int p1, .int 1]) (rest := []) S (kX11_fault l g hst hc5) (cwV 2 S.2.2.2.2 gL_fault_X11_fault rfl rfl rfl ynX11_fault ⟨(Nat.le_of_ble_eq_true rfl), (Nat.le_of_ble_eq_true rfl)⟩) (dpV hE hP hS (ci := 11) rfl (dat12 dk_0)) rfl rfl hl.1 rfl (lv_room (Nat.le_of_ble_eq_true rfl)) dL_fault_13 ⟨by omega, by omega⟩) rfl hS (fun H locs hP hS => ?_)
    refine lv_iload_n S.1 S.2.1 dL_fault_16 rfl (lv_at hl 3 rfl) ?_
    refine lv_icmp_ne (tgt := 46) S.1 S.2.1 dL_fault_17 (by decide) (fun cq => ?_) (fun cq => ?_)
    · have h := d_f cq h
      cases h
    · have h := d_t cq h
      refine lv_aload_n S.1 S.2.1 dL_fault_20 rfl (lv_at hl 0 rfl) ?_
      refine lv_iload_n S.1 S.2.1 dL_fault_21 rfl (lv_at hl 1 rfl) ?_
      refine lv_iconst (v := 2) S.1 S.2.1 dL_fault_22 (by decide) ?_
      obtain ⟨q12, hc9, h⟩ := d_b h
      rcases q12 with q12 | q12
      · have h := d_s1 h
        cases h
      obtain ⟨v11, m10⟩ := q12
      have h := d_s2 h
      have h := d_p2 h
      refine doxi (vx_runV (As := [.int p1, .int 2]) (rest := []) S (kX11_fault l g hst hc9) (cwV 2 S.2.2.2.2 gL_fault_X11_fault rfl rfl rfl ynX11_fault ⟨(Nat.le_of_ble_eq_true rfl), (Nat.le_of_ble_eq_true rfl)⟩) (dpV hE hP hS (ci := 11) rfl (dat12 dk_0)) rfl rfl hl.1 rfl (lv_room (Nat.le_of_ble_eq_true rfl)) dL_fault_23 ⟨by omega, by omega⟩) rfl hS (fun H locs hP hS => ?_)
      refine lv_iload S.1 S.2.1 dL_fault_26 (lv_at hl 4 rfl) ?_
      refine lv_icmp_ne (tgt := 46) S.1 S.2.1 dL_fault_28 (by decide) (fun cq => ?_) (fun cq => ?_)
      · have h := d_f cq h
        cases h
      · have h := d_t cq h
        refine lv_aload_n S.1 S.2.1 dL_fault_31 rfl (lv_at hl 0 rfl) ?_
        refine lv_iload_n S.1 S.2.1 dL_fault_32 rfl (lv_at hl 1 rfl) ?_
        refine lv_iconst (v := 3) S.1 S.2.1 dL_fault_33 (by decide) ?_
        obtain ⟨q16, hc13, h⟩ := d_b h
        rcases q16 with q16 | q16
        · have h := d_s1 h
          cases h
        obtain ⟨v15, m14⟩ := q16
        have h := d_s2 h
        have h := d_p2 h
        refine doxi (vx_runV (As := [.int p1, .int 3]) (rest := []) S (kX11_fault l g hst hc13) (cwV 2 S.2.2.2.2 gL_fault_X11_fault rfl rfl rfl ynX11_fault ⟨(Nat.le_of_ble_eq_true rfl), (Nat.le_of_ble_eq_true rfl)⟩) (dpV hE hP hS (ci := 11) rfl (dat12 dk_0)) rfl rfl hl.1 rfl (lv_room (Nat.le_of_ble_eq_true rfl)) dL_fault_34 ⟨by omega, by omega⟩) rfl hS (fun H locs hP hS => ?_)
        refine lv_iload S.1 S.2.1 dL_fault_37 (lv_at hl 5 rfl) ?_
        refine lv_icmp_ne (tgt := 46) S.1 S.2.1 dL_fault_39 (by decide) (fun cq => ?_) (fun cq => ?_)
        · have h := d_f cq h
          cases h
        · have h := d_t cq h
          refine lv_iconst (v := 1) S.1 S.2.1 dL_fault_42 (by decide) ?_
          refine lv_goto (tgt := 47) S.1 S.2.1 dL_fault_43 (by decide) ?_
          obtain rfl := Option.some.inj h
          exact dLti S hr hlk hE hP hS rfl (by omega) (by omega) dL_fault_47
theorem ynL_refuses : yL_refuses.cls ≠ "java/lang/invoke/MethodHandle" ∧ yL_refuses.cls ≠ "java/lang/invoke/VarHandle" ∧ (parseMethodDescriptor yL_refuses.desc).map (fun d => d.parameters.length) = some 5 := by decide +kernel
set_option maxRecDepth 20000 in
theorem ggL_refuses_X11_lasts : GoodIn wsL_refuses wsX11_lasts := goodIn_s _ [9, 10, 11, 12, 13, 14, 15, 16, 17, 18, 19, 20, 21, 22, 23, 8, 24, 25, 26, 27, 28, 29, 30, 31, 32, 33, 34, 35, 36, 37, 580, 581, 582, 583, 584, 585, 586, 587, 588, 589, 590, 591, 592, 593, 594, 595, 596, 597, 598] (by decide +kernel) (by decide +kernel)
set_option maxRecDepth 20000 in
theorem gL_refuses_X11_lasts : GoodIn wsL_refuses (wsV RL 115 RX11 yX11_lasts wsX11_lasts) := goodIn_app (goodIn_of _ (by decide +kernel)) ggL_refuses_X11_lasts
set_option maxRecDepth 20000 in
theorem ggL_refuses_X11_changed : GoodIn wsL_refuses wsX11_changed := goodIn_s _ [41, 42, 10, 43, 44, 45, 46, 47, 48, 49, 50, 51, 52, 53, 54, 55, 56, 57, 58, 59, 60, 61, 62, 63, 64, 65, 14, 66, 16, 67, 68, 69, 70, 71, 72, 23, 8, 24, 73, 18, 19, 20, 21, 22, 74, 75, 76, 28, 77, 78, 79, 80, 81, 82, 83, 84, 85, 86, 87, 88, 89, 580, 581, 582, 583, 584, 585, 586, 587, 599, 600, 601, 602, 603, 604, 605, 606, 588, 589, 590, 591, 592, 593, 594, 595, 596, 597, 598, 607, 608] (by decide +kernel) (by decide +kernel)
set_option maxRecDepth 20000 in
theorem gL_refuses_X11_changed : GoodIn wsL_refuses (wsV RL 118 RX11 yX11_changed wsX11_changed) := goodIn_app (goodIn_of _ (by decide +kernel)) ggL_refuses_X11_changed
set_option maxRecDepth 20000 in
theorem ggL_refuses_L_act : GoodIn wsL_refuses wsL_act := goodIn_ca (goodIn_ca (goodIn_ca (goodIn_s _ [93, 94, 95, 96, 3, 2, 4, 97, 98, 92, 99, 100, 101, 102, 8, 103, 104, 105, 106, 43, 107, 108, 109, 110, 111, 112, 23, 24, 113, 114, 115, 116, 117, 118, 119, 120, 121, 47, 122, 123, 57, 58, 59, 49, 124, 125, 126, 127, 128, 129, 130, 131, 132, 133, 134, 135, 44, 45, 46, 48, 136, 137, 138, 139, 140, 141, 142, 143, 144, 86, 87, 145, 146, 147, 148, 149, 150, 151, 152, 153, 154, 155, 156, 157, 158, 159, 160, 161, 162, 163, 164, 165, 166, 167, 168, 169, 170, 171, 172, 173, 174, 175, 176, 177, 178, 179, 180, 181, 182, 183, 32, 33, 34, 35, 36, 37, 184, 185, 186, 82, 187, 84, 85, 188, 189, 190, 191, 192, 193, 194, 195, 196, 197, 198, 199, 200, 201, 202, 203, 204, 205, 206, 207, 208, 209, 210, 211, 212, 213, 214, 215, 216, 217, 218, 219, 220, 221, 222, 223, 224, 225, 226, 227, 228, 229, 230, 231, 232, 233, 234, 235, 236, 237, 238, 239, 240, 241, 242, 243, 244, 10, 245, 64, 65, 14, 66, 16, 246, 247, 248, 249, 250, 251, 18, 19, 20, 21, 22, 252, 253, 254, 28, 255, 256, 30, 31, 257, 258, 259, 260, 261, 262, 17, 263, 264, 265, 266, 267, 268, 269, 270, 271, 272, 273, 75, 76, 77, 78, 274, 275, 276, 277, 278, 279, 280, 281, 282, 283, 284, 285, 286, 287, 288, 289, 290, 291, 292, 293, 294, 295, 296, 297, 80, 81, 83, 88, 89, 298, 299, 300, 301, 302, 303, 304, 305, 306, 307, 308, 309, 310, 311, 312, 313, 314, 315, 316, 317, 318, 319, 320, 321, 322, 323, 324, 325, 326, 327, 328, 329, 330, 331, 332, 333, 334, 335, 336, 337, 338, 339, 340, 341, 342, 343, 344, 345, 346, 347, 348, 349, 350, 351, 352, 353, 354, 355, 356, 357, 61, 62, 358, 359, 360, 361, 362, 363, 364, 365, 366, 367, 368, 369, 370, 371, 372, 373, 374, 375, 376, 377, 378, 379, 380, 381, 382, 383, 384, 385, 386, 387, 388, 389, 390, 391, 392, 393, 394, 395, 396, 397, 398, 399, 400, 401, 402, 403, 404, 405, 406, 407, 408, 409, 410, 411, 412, 413, 414, 415, 416, 417, 418, 419, 420, 421, 422, 423, 424, 425, 426, 427, 428, 429, 430, 431, 432, 433, 434, 435, 436, 437, 438, 439, 440, 441, 442, 443, 444, 445, 446, 447, 448, 449, 450, 451, 452, 453, 454, 455, 456, 457, 458, 459, 460, 461, 462, 463, 464, 465, 466, 467, 468, 469, 470, 471, 472, 473, 474, 475, 476, 477, 478, 479, 480, 481, 482, 483, 484, 485, 486, 487, 488, 489, 490, 491, 492, 493, 494, 495, 496, 497, 498, 499, 500, 501, 502, 503, 504, 505, 506, 507, 508, 509, 510, 511, 512, 513, 514, 515, 516, 517, 518, 519, 520, 521, 522, 523, 524, 525, 526, 527, 11, 12, 13, 15, 25, 26, 27, 29, 528, 529, 530, 531, 532, 533, 534, 535, 536, 537, 538, 539, 540, 541, 542, 543, 544, 545, 546, 547, 548, 549, 550, 551, 552, 553, 554, 555, 556, 557, 558, 559, 560, 561, 562, 563, 564, 565, 566, 567, 568, 569, 580, 581, 582, 583, 584, 585, 586, 587, 609, 610, 611, 599, 600, 601, 602, 603, 607, 608, 588, 589, 590, 591, 592, 593, 594, 595, 596, 597, 598, 612, 613, 614, 615, 616, 617, 618, 619, 620, 621, 622, 623, 624, 625, 626, 627, 628, 629, 630, 631] (by decide +kernel) (by decide +kernel)) (goodIn_sub (fun _ h => List.mem_cons_of_mem _ (List.mem_append_left _ (List.mem_append_left _ (List.mem_append_right _ h)))) (by decide +kernel))) (goodIn_sub (fun _ h => List.mem_cons_of_mem _ (List.mem_append_left _ (List.mem_append_right _ h))) (by decide +kernel))) (goodIn_sub (fun _ h => List.mem_cons_of_mem _ (List.mem_append_right _ h)) (by decide +kernel))
set_option maxRecDepth 20000 in
theorem gL_refuses_L_act : GoodIn wsL_refuses (va_wsS RL 121 yL_act wsL_act) := goodIn_app (goodIn_of _ (by decide +kernel)) ggL_refuses_L_act
set_option maxRecDepth 20000 in
theorem ggL_refuses_L_toss : GoodIn wsL_refuses wsL_toss := goodIn_ca (goodIn_ca (goodIn_ca (goodIn_s _ [572, 94, 95, 96, 573, 574, 575, 8, 576, 104, 105, 10, 43, 484, 57, 58, 59, 577, 578, 579, 345, 346, 347, 348, 245, 64, 65, 14, 66, 16, 136, 137, 138, 139, 140, 112, 23, 24, 132, 133, 134, 135, 44, 45, 46, 47, 48, 49, 251, 18, 19, 20, 21, 22, 379, 380, 381, 28, 382, 30, 107, 108, 109, 110, 111, 157, 158, 159, 160, 125, 126, 127, 86, 87, 383, 384, 385, 386, 272, 78, 331, 197, 198, 82, 199, 84, 32, 33, 34, 35, 36, 37, 387, 388, 389, 390, 332, 201, 202, 203, 85, 580, 581, 582, 583, 584, 585, 586, 587, 588, 589, 590, 591, 599, 600, 601, 602, 603, 592, 593, 594, 595, 596, 597, 598, 607, 608] (by decide +kernel) (by decide +kernel)) (goodIn_sub (fun _ h => List.mem_cons_of_mem _ (List.mem_append_left _ (List.mem_append_left _ (List.mem_append_right _ h)))) (by decide +kernel))) (goodIn_sub (fun _ h => List.mem_cons_of_mem _ (List.mem_append_right _ h)) (by decide +kernel))) (goodIn_sub (fun _ h => List.mem_cons_of_mem _ (List.mem_append_left _ (List.mem_append_right _ h))) (by decide +kernel))
set_option maxRecDepth 20000 in
theorem gL_refuses_L_toss : GoodIn wsL_refuses (va_wsS RL 125 yL_toss wsL_toss) := goodIn_app (goodIn_of _ (by decide +kernel)) ggL_refuses_L_toss
theorem dL_refuses_0 : decode cL_refuses 0 = .ok (.ldc 114, 2) := by decide +kernel
theorem dL_refuses_2 : decode cL_refuses 2 = .ok (.istore 5, 2) := by decide +kernel
theorem dL_refuses_4 : decode cL_refuses 4 = .ok (.aload_n 0, 1) := by decide +kernel
theorem dL_refuses_5 : decode cL_refuses 5 = .ok (.invokevirtual 115, 3) := by decide +kernel
theorem dL_refuses_8 : decode cL_refuses 8 = .ok (.istore 6, 2) := by decide +kernel
theorem dL_refuses_10 : decode cL_refuses 10 = .ok (.aload_n 0, 1) := by decide +kernel
theorem dL_refuses_11 : decode cL_refuses 11 = .ok (.invokevirtual 118, 3) := by decide +kernel
theorem dL_refuses_14 : decode cL_refuses 14 = .ok (.istore 7, 2) := by decide +kernel
theorem dL_refuses_16 : decode cL_refuses 16 = .ok (.iconst 0, 1) := by decide +kernel
theorem dL_refuses_17 : decode cL_refuses 17 = .ok (.istore 8, 2) := by decide +kernel
theorem dL_refuses_19 : decode cL_refuses 19 = .ok (.iload 8, 2) := by decide +kernel
theorem dL_refuses_21 : decode cL_refuses 21 = .ok (.iconst 4, 1) := by decide +kernel
theorem dL_refuses_22 : decode cL_refuses 22 = .ok (.if_icmp .ge 1680, 3) := by decide +kernel
theorem dL_refuses_25 : decode cL_refuses 25 = .ok (.iload 8, 2) := by decide +kernel
theorem dL_refuses_27 : decode cL_refuses 27 = .ok (.ifCond .ne 7, 3) := by decide +kernel
theorem dL_refuses_30 : decode cL_refuses 30 = .ok (.iconst (-1), 1) := by decide +kernel
theorem dL_refuses_31 : decode cL_refuses 31 = .ok (.goto 19, 3) := by decide +kernel
theorem dL_refuses_34 : decode cL_refuses 34 = .ok (.iload 8, 2) := by decide +kernel
theorem dL_refuses_36 : decode cL_refuses 36 = .ok (.iconst 2, 1) := by decide +kernel
theorem dL_refuses_37 : decode cL_refuses 37 = .ok (.if_icmp .ne 8, 3) := by decide +kernel
theorem dL_refuses_40 : decode cL_refuses 40 = .ok (.iload 5, 2) := by decide +kernel
theorem dL_refuses_42 : decode cL_refuses 42 = .ok (.goto 8, 3) := by decide +kernel
theorem dL_refuses_45 : decode cL_refuses 45 = .ok (.iload 5, 2) := by decide +kernel
theorem dL_refuses_47 : decode cL_refuses 47 = .ok (.ineg, 1) := by decide +kernel
theorem dL_refuses_48 : decode cL_refuses 48 = .ok (.iconst 1, 1) := by decide +kernel
theorem dL_refuses_49 : decode cL_refuses 49 = .ok (.isub, 1) := by decide +kernel
theorem dL_refuses_50 : decode cL_refuses 50 = .ok (.istore 9, 2) := by decide +kernel
theorem dL_refuses_52 : decode cL_refuses 52 = .ok (.iload 8, 2) := by decide +kernel
theorem dL_refuses_54 : decode cL_refuses 54 = .ok (.iconst 1, 1) := by decide +kernel
theorem dL_refuses_55 : decode cL_refuses 55 = .ok (.if_icmp .ne 7, 3) := by decide +kernel
theorem dL_refuses_58 : decode cL_refuses 58 = .ok (.iload_n 1, 1) := by decide +kernel
theorem dL_refuses_59 : decode cL_refuses 59 = .ok (.goto 5, 3) := by decide +kernel
theorem dL_refuses_62 : decode cL_refuses 62 = .ok (.iload 9, 2) := by decide +kernel
theorem dL_refuses_64 : decode cL_refuses 64 = .ok (.istore 10, 2) := by decide +kernel
theorem dL_refuses_66 : decode cL_refuses 66 = .ok (.iload 8, 2) := by decide +kernel
theorem dL_refuses_68 : decode cL_refuses 68 = .ok (.iconst 1, 1) := by decide +kernel
theorem dL_refuses_69 : decode cL_refuses 69 = .ok (.if_icmp .ne 7, 3) := by decide +kernel
theorem dL_refuses_72 : decode cL_refuses 72 = .ok (.iload_n 2, 1) := by decide +kernel
theorem dL_refuses_73 : decode cL_refuses 73 = .ok (.goto 5, 3) := by decide +kernel
theorem dL_refuses_76 : decode cL_refuses 76 = .ok (.iload 9, 2) := by decide +kernel
theorem dL_refuses_78 : decode cL_refuses 78 = .ok (.istore 11, 2) := by decide +kernel
theorem dL_refuses_80 : decode cL_refuses 80 = .ok (.iload 8, 2) := by decide +kernel
theorem dL_refuses_82 : decode cL_refuses 82 = .ok (.iconst 1, 1) := by decide +kernel
theorem dL_refuses_83 : decode cL_refuses 83 = .ok (.if_icmp .ne 7, 3) := by decide +kernel
theorem dL_refuses_86 : decode cL_refuses 86 = .ok (.iload_n 3, 1) := by decide +kernel
theorem dL_refuses_87 : decode cL_refuses 87 = .ok (.goto 5, 3) := by decide +kernel
theorem dL_refuses_90 : decode cL_refuses 90 = .ok (.iload 9, 2) := by decide +kernel
theorem dL_refuses_92 : decode cL_refuses 92 = .ok (.istore 12, 2) := by decide +kernel
theorem dL_refuses_94 : decode cL_refuses 94 = .ok (.aload_n 0, 1) := by decide +kernel
theorem dL_refuses_95 : decode cL_refuses 95 = .ok (.iconst 0, 1) := by decide +kernel
theorem dL_refuses_96 : decode cL_refuses 96 = .ok (.iload 8, 2) := by decide +kernel
theorem dL_refuses_98 : decode cL_refuses 98 = .ok (.ifCond .ne 7, 3) := by decide +kernel
theorem dL_refuses_101 : decode cL_refuses 101 = .ok (.iconst 1, 1) := by decide +kernel
theorem dL_refuses_102 : decode cL_refuses 102 = .ok (.goto 16, 3) := by decide +kernel
theorem dL_refuses_105 : decode cL_refuses 105 = .ok (.iload 8, 2) := by decide +kernel
theorem dL_refuses_107 : decode cL_refuses 107 = .ok (.iconst 1, 1) := by decide +kernel
theorem dL_refuses_108 : decode cL_refuses 108 = .ok (.if_icmp .ne 8, 3) := by decide +kernel
theorem dL_refuses_111 : decode cL_refuses 111 = .ok (.bipush 11, 2) := by decide +kernel
theorem dL_refuses_113 : decode cL_refuses 113 = .ok (.goto 5, 3) := by decide +kernel
theorem dL_refuses_116 : decode cL_refuses 116 = .ok (.iload 9, 2) := by decide +kernel
theorem dL_refuses_118 : decode cL_refuses 118 = .ok (.iconst 0, 1) := by decide +kernel
theorem dL_refuses_119 : decode cL_refuses 119 = .ok (.iconst 0, 1) := by decide +kernel
theorem dL_refuses_120 : decode cL_refuses 120 = .ok (.iconst 0, 1) := by decide +kernel
theorem dL_refuses_121 : decode cL_refuses 121 = .ok (.invokestatic 121, 3) := by decide +kernel
theorem dL_refuses_124 : decode cL_refuses 124 = .ok (.ldc2_w 104, 3) := by decide +kernel
theorem dL_refuses_127 : decode cL_refuses 127 = .ok (.lcmp, 1) := by decide +kernel
theorem dL_refuses_128 : decode cL_refuses 128 = .ok (.ifCond .ne 501, 3) := by decide +kernel
theorem dL_refuses_131 : decode cL_refuses 131 = .ok (.aload_n 0, 1) := by decide +kernel
theorem dL_refuses_132 : decode cL_refuses 132 = .ok (.iconst 1, 1) := by decide +kernel
theorem dL_refuses_133 : decode cL_refuses 133 = .ok (.iload 10, 2) := by decide +kernel
theorem dL_refuses_135 : decode cL_refuses 135 = .ok (.iconst 0, 1) := by decide +kernel
theorem dL_refuses_136 : decode cL_refuses 136 = .ok (.iconst 0, 1) := by decide +kernel
theorem dL_refuses_137 : decode cL_refuses 137 = .ok (.iconst 0, 1) := by decide +kernel
theorem dL_refuses_138 : decode cL_refuses 138 = .ok (.invokestatic 121, 3) := by decide +kernel
theorem dL_refuses_141 : decode cL_refuses 141 = .ok (.ldc2_w 100, 3) := by decide +kernel
theorem dL_refuses_144 : decode cL_refuses 144 = .ok (.lcmp, 1) := by decide +kernel
theorem dL_refuses_145 : decode cL_refuses 145 = .ok (.ifCond .ne 484, 3) := by decide +kernel
theorem dL_refuses_148 : decode cL_refuses 148 = .ok (.aload_n 0, 1) := by decide +kernel
theorem dL_refuses_149 : decode cL_refuses 149 = .ok (.iconst 1, 1) := by decide +kernel
theorem dL_refuses_150 : decode cL_refuses 150 = .ok (.iconst 0, 1) := by decide +kernel
theorem dL_refuses_151 : decode cL_refuses 151 = .ok (.iload 8, 2) := by decide +kernel
theorem dL_refuses_153 : decode cL_refuses 153 = .ok (.ifCond .ne 7, 3) := by decide +kernel
theorem dL_refuses_156 : decode cL_refuses 156 = .ok (.iconst 4, 1) := by decide +kernel
theorem dL_refuses_157 : decode cL_refuses 157 = .ok (.goto 16, 3) := by decide +kernel
theorem dL_refuses_160 : decode cL_refuses 160 = .ok (.iload 8, 2) := by decide +kernel
theorem dL_refuses_162 : decode cL_refuses 162 = .ok (.iconst 1, 1) := by decide +kernel
theorem dL_refuses_163 : decode cL_refuses 163 = .ok (.if_icmp .ne 8, 3) := by decide +kernel
theorem dL_refuses_166 : decode cL_refuses 166 = .ok (.bipush 41, 2) := by decide +kernel
theorem dL_refuses_168 : decode cL_refuses 168 = .ok (.goto 5, 3) := by decide +kernel
theorem dL_refuses_171 : decode cL_refuses 171 = .ok (.iload 9, 2) := by decide +kernel
theorem dL_refuses_173 : decode cL_refuses 173 = .ok (.iconst 0, 1) := by decide +kernel
theorem dL_refuses_174 : decode cL_refuses 174 = .ok (.iconst 0, 1) := by decide +kernel
theorem dL_refuses_175 : decode cL_refuses 175 = .ok (.invokestatic 121, 3) := by decide +kernel
theorem dL_refuses_178 : decode cL_refuses 178 = .ok (.ldc2_w 104, 3) := by decide +kernel
theorem dL_refuses_181 : decode cL_refuses 181 = .ok (.lcmp, 1) := by decide +kernel
theorem dL_refuses_182 : decode cL_refuses 182 = .ok (.ifCond .ne 447, 3) := by decide +kernel
theorem dL_refuses_185 : decode cL_refuses 185 = .ok (.aload_n 0, 1) := by decide +kernel
theorem dL_refuses_186 : decode cL_refuses 186 = .ok (.iconst 2, 1) := by decide +kernel
theorem dL_refuses_187 : decode cL_refuses 187 = .ok (.iload 10, 2) := by decide +kernel
theorem dL_refuses_189 : decode cL_refuses 189 = .ok (.iconst 1, 1) := by decide +kernel
theorem dL_refuses_190 : decode cL_refuses 190 = .ok (.iconst 0, 1) := by decide +kernel
theorem dL_refuses_191 : decode cL_refuses 191 = .ok (.iconst 0, 1) := by decide +kernel
theorem dL_refuses_192 : decode cL_refuses 192 = .ok (.invokestatic 121, 3) := by decide +kernel
theorem dL_refuses_195 : decode cL_refuses 195 = .ok (.ldc2_w 100, 3) := by decide +kernel
theorem dL_refuses_198 : decode cL_refuses 198 = .ok (.lcmp, 1) := by decide +kernel
theorem dL_refuses_199 : decode cL_refuses 199 = .ok (.ifCond .ne 430, 3) := by decide +kernel
theorem dL_refuses_202 : decode cL_refuses 202 = .ok (.aload_n 0, 1) := by decide +kernel
theorem dL_refuses_203 : decode cL_refuses 203 = .ok (.iconst 3, 1) := by decide +kernel
theorem dL_refuses_204 : decode cL_refuses 204 = .ok (.iload 8, 2) := by decide +kernel
theorem dL_refuses_206 : decode cL_refuses 206 = .ok (.iconst 1, 1) := by decide +kernel
theorem dL_refuses_207 : decode cL_refuses 207 = .ok (.if_icmp .ne 7, 3) := by decide +kernel
theorem dL_refuses_210 : decode cL_refuses 210 = .ok (.iconst 3, 1) := by decide +kernel
theorem dL_refuses_211 : decode cL_refuses 211 = .ok (.goto 5, 3) := by decide +kernel
theorem dL_refuses_214 : decode cL_refuses 214 = .ok (.iload 9, 2) := by decide +kernel
theorem dL_refuses_216 : decode cL_refuses 216 = .ok (.iconst 0, 1) := by decide +kernel
theorem dL_refuses_217 : decode cL_refuses 217 = .ok (.iconst 0, 1) := by decide +kernel
theorem dL_refuses_218 : decode cL_refuses 218 = .ok (.iconst 0, 1) := by decide +kernel
theorem dL_refuses_219 : decode cL_refuses 219 = .ok (.invokestatic 121, 3) := by decide +kernel
theorem dL_refuses_222 : decode cL_refuses 222 = .ok (.ldc2_w 100, 3) := by decide +kernel
theorem dL_refuses_225 : decode cL_refuses 225 = .ok (.lcmp, 1) := by decide +kernel
theorem dL_refuses_226 : decode cL_refuses 226 = .ok (.ifCond .ne 403, 3) := by decide +kernel
theorem dL_refuses_229 : decode cL_refuses 229 = .ok (.aload_n 0, 1) := by decide +kernel
theorem dL_refuses_230 : decode cL_refuses 230 = .ok (.iconst 3, 1) := by decide +kernel
theorem dL_refuses_231 : decode cL_refuses 231 = .ok (.iconst 0, 1) := by decide +kernel
theorem dL_refuses_232 : decode cL_refuses 232 = .ok (.iload 8, 2) := by decide +kernel
theorem dL_refuses_234 : decode cL_refuses 234 = .ok (.ifCond .ne 8, 3) := by decide +kernel
theorem dL_refuses_237 : decode cL_refuses 237 = .ok (.bipush (-2), 2) := by decide +kernel
theorem dL_refuses_239 : decode cL_refuses 239 = .ok (.goto 5, 3) := by decide +kernel
theorem dL_refuses_242 : decode cL_refuses 242 = .ok (.iload 10, 2) := by decide +kernel
theorem dL_refuses_244 : decode cL_refuses 244 = .ok (.iconst 0, 1) := by decide +kernel
theorem dL_refuses_245 : decode cL_refuses 245 = .ok (.iconst 0, 1) := by decide +kernel
theorem dL_refuses_246 : decode cL_refuses 246 = .ok (.invokestatic 121, 3) := by decide +kernel
theorem dL_refuses_249 : decode cL_refuses 249 = .ok (.ldc2_w 100, 3) := by decide +kernel
theorem dL_refuses_252 : decode cL_refuses 252 = .ok (.lcmp, 1) := by decide +kernel
theorem dL_refuses_253 : decode cL_refuses 253 = .ok (.ifCond .ne 376, 3) := by decide +kernel
theorem dL_refuses_256 : decode cL_refuses 256 = .ok (.aload_n 0, 1) := by decide +kernel
theorem dL_refuses_257 : decode cL_refuses 257 = .ok (.iconst 4, 1) := by decide +kernel
theorem dL_refuses_258 : decode cL_refuses 258 = .ok (.iload 8, 2) := by decide +kernel
theorem dL_refuses_260 : decode cL_refuses 260 = .ok (.iconst 1, 1) := by decide +kernel
theorem dL_refuses_261 : decode cL_refuses 261 = .ok (.if_icmp .ne 9, 3) := by decide +kernel
theorem dL_refuses_264 : decode cL_refuses 264 = .ok (.sipush 1601, 3) := by decide +kernel
theorem dL_refuses_267 : decode cL_refuses 267 = .ok (.goto 5, 3) := by decide +kernel
theorem dL_refuses_270 : decode cL_refuses 270 = .ok (.iload 9, 2) := by decide +kernel
theorem dL_refuses_272 : decode cL_refuses 272 = .ok (.iconst 0, 1) := by decide +kernel
theorem dL_refuses_273 : decode cL_refuses 273 = .ok (.iconst 0, 1) := by decide +kernel
theorem dL_refuses_274 : decode cL_refuses 274 = .ok (.iconst 0, 1) := by decide +kernel
theorem dL_refuses_275 : decode cL_refuses 275 = .ok (.invokestatic 121, 3) := by decide +kernel
theorem dL_refuses_278 : decode cL_refuses 278 = .ok (.ldc2_w 104, 3) := by decide +kernel
theorem dL_refuses_281 : decode cL_refuses 281 = .ok (.lcmp, 1) := by decide +kernel
theorem dL_refuses_282 : decode cL_refuses 282 = .ok (.ifCond .ne 347, 3) := by decide +kernel
theorem dL_refuses_285 : decode cL_refuses 285 = .ok (.aload_n 0, 1) := by decide +kernel
theorem dL_refuses_286 : decode cL_refuses 286 = .ok (.iconst 4, 1) := by decide +kernel
theorem dL_refuses_287 : decode cL_refuses 287 = .ok (.iconst 0, 1) := by decide +kernel
theorem dL_refuses_288 : decode cL_refuses 288 = .ok (.iload 8, 2) := by decide +kernel
theorem dL_refuses_290 : decode cL_refuses 290 = .ok (.iconst 1, 1) := by decide +kernel
theorem dL_refuses_291 : decode cL_refuses 291 = .ok (.if_icmp .ne 9, 3) := by decide +kernel
theorem dL_refuses_294 : decode cL_refuses 294 = .ok (.sipush 841, 3) := by decide +kernel
theorem dL_refuses_297 : decode cL_refuses 297 = .ok (.goto 5, 3) := by decide +kernel
theorem dL_refuses_300 : decode cL_refuses 300 = .ok (.iload 9, 2) := by decide +kernel
theorem dL_refuses_302 : decode cL_refuses 302 = .ok (.iconst 0, 1) := by decide +kernel
theorem dL_refuses_303 : decode cL_refuses 303 = .ok (.iconst 0, 1) := by decide +kernel
theorem dL_refuses_304 : decode cL_refuses 304 = .ok (.invokestatic 121, 3) := by decide +kernel
theorem dL_refuses_307 : decode cL_refuses 307 = .ok (.ldc2_w 104, 3) := by decide +kernel
theorem dL_refuses_310 : decode cL_refuses 310 = .ok (.lcmp, 1) := by decide +kernel
theorem dL_refuses_311 : decode cL_refuses 311 = .ok (.ifCond .ne 318, 3) := by decide +kernel
theorem dL_refuses_314 : decode cL_refuses 314 = .ok (.aload_n 0, 1) := by decide +kernel
theorem dL_refuses_315 : decode cL_refuses 315 = .ok (.iconst 4, 1) := by decide +kernel
theorem dL_refuses_316 : decode cL_refuses 316 = .ok (.iconst 0, 1) := by decide +kernel
theorem dL_refuses_317 : decode cL_refuses 317 = .ok (.iconst 0, 1) := by decide +kernel
theorem dL_refuses_318 : decode cL_refuses 318 = .ok (.iload 8, 2) := by decide +kernel
theorem dL_refuses_320 : decode cL_refuses 320 = .ok (.iconst 1, 1) := by decide +kernel
theorem dL_refuses_321 : decode cL_refuses 321 = .ok (.if_icmp .ne 9, 3) := by decide +kernel
theorem dL_refuses_324 : decode cL_refuses 324 = .ok (.sipush 1601, 3) := by decide +kernel
theorem dL_refuses_327 : decode cL_refuses 327 = .ok (.goto 5, 3) := by decide +kernel
theorem dL_refuses_330 : decode cL_refuses 330 = .ok (.iload 9, 2) := by decide +kernel
theorem dL_refuses_332 : decode cL_refuses 332 = .ok (.iconst 0, 1) := by decide +kernel
theorem dL_refuses_333 : decode cL_refuses 333 = .ok (.invokestatic 121, 3) := by decide +kernel
theorem dL_refuses_336 : decode cL_refuses 336 = .ok (.ldc2_w 104, 3) := by decide +kernel
theorem dL_refuses_339 : decode cL_refuses 339 = .ok (.lcmp, 1) := by decide +kernel
theorem dL_refuses_340 : decode cL_refuses 340 = .ok (.ifCond .ne 289, 3) := by decide +kernel
theorem dL_refuses_343 : decode cL_refuses 343 = .ok (.aload_n 0, 1) := by decide +kernel
theorem dL_refuses_344 : decode cL_refuses 344 = .ok (.iconst 4, 1) := by decide +kernel
theorem dL_refuses_345 : decode cL_refuses 345 = .ok (.iconst 0, 1) := by decide +kernel
theorem dL_refuses_346 : decode cL_refuses 346 = .ok (.iconst 0, 1) := by decide +kernel
theorem dL_refuses_347 : decode cL_refuses 347 = .ok (.iconst 0, 1) := by decide +kernel
theorem dL_refuses_348 : decode cL_refuses 348 = .ok (.iload 8, 2) := by decide +kernel
theorem dL_refuses_350 : decode cL_refuses 350 = .ok (.iconst 1, 1) := by decide +kernel
theorem dL_refuses_351 : decode cL_refuses 351 = .ok (.if_icmp .ne 9, 3) := by decide +kernel
theorem dL_refuses_354 : decode cL_refuses 354 = .ok (.sipush 841, 3) := by decide +kernel
theorem dL_refuses_357 : decode cL_refuses 357 = .ok (.goto 5, 3) := by decide +kernel
theorem dL_refuses_360 : decode cL_refuses 360 = .ok (.iload 9, 2) := by decide +kernel
theorem dL_refuses_362 : decode cL_refuses 362 = .ok (.invokestatic 121, 3) := by decide +kernel
theorem dL_refuses_365 : decode cL_refuses 365 = .ok (.ldc2_w 104, 3) := by decide +kernel
theorem dL_refuses_368 : decode cL_refuses 368 = .ok (.lcmp, 1) := by decide +kernel
theorem dL_refuses_369 : decode cL_refuses 369 = .ok (.ifCond .ne 260, 3) := by decide +kernel
theorem dL_refuses_372 : decode cL_refuses 372 = .ok (.aload_n 0, 1) := by decide +kernel
theorem dL_refuses_373 : decode cL_refuses 373 = .ok (.iconst 5, 1) := by decide +kernel
theorem dL_refuses_374 : decode cL_refuses 374 = .ok (.iload 8, 2) := by decide +kernel
theorem dL_refuses_376 : decode cL_refuses 376 = .ok (.iconst 1, 1) := by decide +kernel
theorem dL_refuses_377 : decode cL_refuses 377 = .ok (.if_icmp .ne 9, 3) := by decide +kernel
theorem dL_refuses_380 : decode cL_refuses 380 = .ok (.sipush 1601, 3) := by decide +kernel
theorem dL_refuses_383 : decode cL_refuses 383 = .ok (.goto 5, 3) := by decide +kernel
theorem dL_refuses_386 : decode cL_refuses 386 = .ok (.iload 9, 2) := by decide +kernel
theorem dL_refuses_388 : decode cL_refuses 388 = .ok (.iconst 0, 1) := by decide +kernel
theorem dL_refuses_389 : decode cL_refuses 389 = .ok (.iconst 1, 1) := by decide +kernel
theorem dL_refuses_390 : decode cL_refuses 390 = .ok (.iconst 1, 1) := by decide +kernel
theorem dL_refuses_391 : decode cL_refuses 391 = .ok (.invokestatic 121, 3) := by decide +kernel
theorem dL_refuses_394 : decode cL_refuses 394 = .ok (.ldc2_w 104, 3) := by decide +kernel
theorem dL_refuses_397 : decode cL_refuses 397 = .ok (.lcmp, 1) := by decide +kernel
theorem dL_refuses_398 : decode cL_refuses 398 = .ok (.ifCond .ne 231, 3) := by decide +kernel
theorem dL_refuses_401 : decode cL_refuses 401 = .ok (.aload_n 0, 1) := by decide +kernel
theorem dL_refuses_402 : decode cL_refuses 402 = .ok (.iconst 5, 1) := by decide +kernel
theorem dL_refuses_403 : decode cL_refuses 403 = .ok (.iconst 0, 1) := by decide +kernel
theorem dL_refuses_404 : decode cL_refuses 404 = .ok (.iload 8, 2) := by decide +kernel
theorem dL_refuses_406 : decode cL_refuses 406 = .ok (.iconst 1, 1) := by decide +kernel
theorem dL_refuses_407 : decode cL_refuses 407 = .ok (.if_icmp .ne 9, 3) := by decide +kernel
theorem dL_refuses_410 : decode cL_refuses 410 = .ok (.sipush 841, 3) := by decide +kernel
theorem dL_refuses_413 : decode cL_refuses 413 = .ok (.goto 5, 3) := by decide +kernel
theorem dL_refuses_416 : decode cL_refuses 416 = .ok (.iload 9, 2) := by decide +kernel
theorem dL_refuses_418 : decode cL_refuses 418 = .ok (.iconst 1, 1) := by decide +kernel
theorem dL_refuses_419 : decode cL_refuses 419 = .ok (.iconst 1, 1) := by decide +kernel
theorem dL_refuses_420 : decode cL_refuses 420 = .ok (.invokestatic 121, 3) := by decide +kernel
theorem dL_refuses_423 : decode cL_refuses 423 = .ok (.ldc2_w 104, 3) := by decide +kernel
theorem dL_refuses_426 : decode cL_refuses 426 = .ok (.lcmp, 1) := by decide +kernel
theorem dL_refuses_427 : decode cL_refuses 427 = .ok (.ifCond .ne 202, 3) := by decide +kernel
theorem dL_refuses_430 : decode cL_refuses 430 = .ok (.aload_n 0, 1) := by decide +kernel
theorem dL_refuses_431 : decode cL_refuses 431 = .ok (.iconst 5, 1) := by decide +kernel
theorem dL_refuses_432 : decode cL_refuses 432 = .ok (.iconst 0, 1) := by decide +kernel
theorem dL_refuses_433 : decode cL_refuses 433 = .ok (.iconst 0, 1) := by decide +kernel
theorem dL_refuses_434 : decode cL_refuses 434 = .ok (.iload 8, 2) := by decide +kernel
theorem dL_refuses_436 : decode cL_refuses 436 = .ok (.ifCond .ne 7, 3) := by decide +kernel
theorem dL_refuses_439 : decode cL_refuses 439 = .ok (.iconst 0, 1) := by decide +kernel
theorem dL_refuses_440 : decode cL_refuses 440 = .ok (.goto 16, 3) := by decide +kernel
theorem dL_refuses_443 : decode cL_refuses 443 = .ok (.iload 8, 2) := by decide +kernel
theorem dL_refuses_445 : decode cL_refuses 445 = .ok (.iconst 1, 1) := by decide +kernel
theorem dL_refuses_446 : decode cL_refuses 446 = .ok (.if_icmp .ne 8, 3) := by decide +kernel
theorem dL_refuses_449 : decode cL_refuses 449 = .ok (.bipush 11, 2) := by decide +kernel
theorem dL_refuses_451 : decode cL_refuses 451 = .ok (.goto 5, 3) := by decide +kernel
theorem dL_refuses_454 : decode cL_refuses 454 = .ok (.iload 9, 2) := by decide +kernel
theorem dL_refuses_456 : decode cL_refuses 456 = .ok (.iconst 1, 1) := by decide +kernel
theorem dL_refuses_457 : decode cL_refuses 457 = .ok (.invokestatic 121, 3) := by decide +kernel
theorem dL_refuses_460 : decode cL_refuses 460 = .ok (.ldc2_w 104, 3) := by decide +kernel
theorem dL_refuses_463 : decode cL_refuses 463 = .ok (.lcmp, 1) := by decide +kernel
theorem dL_refuses_464 : decode cL_refuses 464 = .ok (.ifCond .ne 165, 3) := by decide +kernel
theorem dL_refuses_467 : decode cL_refuses 467 = .ok (.aload_n 0, 1) := by decide +kernel
theorem dL_refuses_468 : decode cL_refuses 468 = .ok (.iconst 5, 1) := by decide +kernel
theorem dL_refuses_469 : decode cL_refuses 469 = .ok (.iconst 0, 1) := by decide +kernel
theorem dL_refuses_470 : decode cL_refuses 470 = .ok (.iconst 0, 1) := by decide +kernel
theorem dL_refuses_471 : decode cL_refuses 471 = .ok (.iconst 1, 1) := by decide +kernel
theorem dL_refuses_472 : decode cL_refuses 472 = .ok (.iload 8, 2) := by decide +kernel
theorem dL_refuses_474 : decode cL_refuses 474 = .ok (.ifCond .ne 7, 3) := by decide +kernel
theorem dL_refuses_477 : decode cL_refuses 477 = .ok (.iconst 0, 1) := by decide +kernel
theorem dL_refuses_478 : decode cL_refuses 478 = .ok (.goto 17, 3) := by decide +kernel
theorem dL_refuses_481 : decode cL_refuses 481 = .ok (.iload 8, 2) := by decide +kernel
theorem dL_refuses_483 : decode cL_refuses 483 = .ok (.iconst 1, 1) := by decide +kernel
theorem dL_refuses_484 : decode cL_refuses 484 = .ok (.if_icmp .ne 9, 3) := by decide +kernel
theorem dL_refuses_487 : decode cL_refuses 487 = .ok (.sipush 401, 3) := by decide +kernel
theorem dL_refuses_490 : decode cL_refuses 490 = .ok (.goto 5, 3) := by decide +kernel
theorem dL_refuses_493 : decode cL_refuses 493 = .ok (.iload 9, 2) := by decide +kernel
theorem dL_refuses_495 : decode cL_refuses 495 = .ok (.invokestatic 121, 3) := by decide +kernel
theorem dL_refuses_498 : decode cL_refuses 498 = .ok (.ldc2_w 104, 3) := by decide +kernel
theorem dL_refuses_501 : decode cL_refuses 501 = .ok (.lcmp, 1) := by decide +kernel
theorem dL_refuses_502 : decode cL_refuses 502 = .ok (.ifCond .ne 127, 3) := by decide +kernel
theorem dL_refuses_505 : decode cL_refuses 505 = .ok (.aload_n 0, 1) := by decide +kernel
theorem dL_refuses_506 : decode cL_refuses 506 = .ok (.bipush 6, 2) := by decide +kernel
theorem dL_refuses_508 : decode cL_refuses 508 = .ok (.iload 8, 2) := by decide +kernel
theorem dL_refuses_510 : decode cL_refuses 510 = .ok (.iconst 1, 1) := by decide +kernel
theorem dL_refuses_511 : decode cL_refuses 511 = .ok (.if_icmp .ne 9, 3) := by decide +kernel
theorem dL_refuses_514 : decode cL_refuses 514 = .ok (.sipush 1601, 3) := by decide +kernel
theorem dL_refuses_517 : decode cL_refuses 517 = .ok (.goto 5, 3) := by decide +kernel
theorem dL_refuses_520 : decode cL_refuses 520 = .ok (.iload 9, 2) := by decide +kernel
theorem dL_refuses_522 : decode cL_refuses 522 = .ok (.iconst 0, 1) := by decide +kernel
theorem dL_refuses_523 : decode cL_refuses 523 = .ok (.iconst 1, 1) := by decide +kernel
theorem dL_refuses_524 : decode cL_refuses 524 = .ok (.iconst 0, 1) := by decide +kernel
theorem dL_refuses_525 : decode cL_refuses 525 = .ok (.invokestatic 121, 3) := by decide +kernel
theorem dL_refuses_528 : decode cL_refuses 528 = .ok (.ldc2_w 104, 3) := by decide +kernel
theorem dL_refuses_531 : decode cL_refuses 531 = .ok (.lcmp, 1) := by decide +kernel
theorem dL_refuses_532 : decode cL_refuses 532 = .ok (.ifCond .ne 97, 3) := by decide +kernel
theorem dL_refuses_535 : decode cL_refuses 535 = .ok (.aload_n 0, 1) := by decide +kernel
theorem dL_refuses_536 : decode cL_refuses 536 = .ok (.bipush 6, 2) := by decide +kernel
theorem dL_refuses_538 : decode cL_refuses 538 = .ok (.sipush 800, 3) := by decide +kernel
theorem dL_refuses_541 : decode cL_refuses 541 = .ok (.iload 8, 2) := by decide +kernel
theorem dL_refuses_543 : decode cL_refuses 543 = .ok (.iconst 1, 1) := by decide +kernel
theorem dL_refuses_544 : decode cL_refuses 544 = .ok (.if_icmp .ne 9, 3) := by decide +kernel
theorem dL_refuses_547 : decode cL_refuses 547 = .ok (.sipush 841, 3) := by decide +kernel
theorem dL_refuses_550 : decode cL_refuses 550 = .ok (.goto 5, 3) := by decide +kernel
theorem dL_refuses_553 : decode cL_refuses 553 = .ok (.iload 9, 2) := by decide +kernel
theorem dL_refuses_555 : decode cL_refuses 555 = .ok (.iconst 1, 1) := by decide +kernel
theorem dL_refuses_556 : decode cL_refuses 556 = .ok (.iconst 0, 1) := by decide +kernel
theorem dL_refuses_557 : decode cL_refuses 557 = .ok (.invokestatic 121, 3) := by decide +kernel
theorem dL_refuses_560 : decode cL_refuses 560 = .ok (.ldc2_w 104, 3) := by decide +kernel
theorem dL_refuses_563 : decode cL_refuses 563 = .ok (.lcmp, 1) := by decide +kernel
theorem dL_refuses_564 : decode cL_refuses 564 = .ok (.ifCond .ne 65, 3) := by decide +kernel
theorem dL_refuses_567 : decode cL_refuses 567 = .ok (.aload_n 0, 1) := by decide +kernel
theorem dL_refuses_568 : decode cL_refuses 568 = .ok (.bipush 6, 2) := by decide +kernel
theorem dL_refuses_570 : decode cL_refuses 570 = .ok (.sipush 800, 3) := by decide +kernel
theorem dL_refuses_573 : decode cL_refuses 573 = .ok (.iconst 0, 1) := by decide +kernel
theorem dL_refuses_574 : decode cL_refuses 574 = .ok (.iload 8, 2) := by decide +kernel
theorem dL_refuses_576 : decode cL_refuses 576 = .ok (.ifCond .ne 7, 3) := by decide +kernel
theorem dL_refuses_579 : decode cL_refuses 579 = .ok (.iconst 0, 1) := by decide +kernel
theorem dL_refuses_580 : decode cL_refuses 580 = .ok (.goto 17, 3) := by decide +kernel
theorem dL_refuses_583 : decode cL_refuses 583 = .ok (.iload 8, 2) := by decide +kernel
theorem dL_refuses_585 : decode cL_refuses 585 = .ok (.iconst 1, 1) := by decide +kernel
theorem dL_refuses_586 : decode cL_refuses 586 = .ok (.if_icmp .ne 9, 3) := by decide +kernel
theorem dL_refuses_589 : decode cL_refuses 589 = .ok (.sipush 401, 3) := by decide +kernel
theorem dL_refuses_592 : decode cL_refuses 592 = .ok (.goto 5, 3) := by decide +kernel
theorem dL_refuses_595 : decode cL_refuses 595 = .ok (.iload 9, 2) := by decide +kernel
theorem dL_refuses_597 : decode cL_refuses 597 = .ok (.iconst 0, 1) := by decide +kernel
theorem dL_refuses_598 : decode cL_refuses 598 = .ok (.invokestatic 121, 3) := by decide +kernel
theorem dL_refuses_601 : decode cL_refuses 601 = .ok (.ldc2_w 104, 3) := by decide +kernel
theorem dL_refuses_604 : decode cL_refuses 604 = .ok (.lcmp, 1) := by decide +kernel
theorem dL_refuses_605 : decode cL_refuses 605 = .ok (.ifCond .ne 24, 3) := by decide +kernel
theorem dL_refuses_608 : decode cL_refuses 608 = .ok (.aload_n 0, 1) := by decide +kernel
theorem dL_refuses_609 : decode cL_refuses 609 = .ok (.bipush 6, 2) := by decide +kernel
theorem dL_refuses_611 : decode cL_refuses 611 = .ok (.iconst 0, 1) := by decide +kernel
theorem dL_refuses_612 : decode cL_refuses 612 = .ok (.iconst 0, 1) := by decide +kernel
theorem dL_refuses_613 : decode cL_refuses 613 = .ok (.iconst 1, 1) := by decide +kernel
theorem dL_refuses_614 : decode cL_refuses 614 = .ok (.iconst 0, 1) := by decide +kernel
theorem dL_refuses_615 : decode cL_refuses 615 = .ok (.invokestatic 121, 3) := by decide +kernel
theorem dL_refuses_618 : decode cL_refuses 618 = .ok (.ldc2_w 104, 3) := by decide +kernel
theorem dL_refuses_621 : decode cL_refuses 621 = .ok (.lcmp, 1) := by decide +kernel
theorem dL_refuses_622 : decode cL_refuses 622 = .ok (.ifCond .ne 7, 3) := by decide +kernel
theorem dL_refuses_625 : decode cL_refuses 625 = .ok (.iconst 1, 1) := by decide +kernel
theorem dL_refuses_626 : decode cL_refuses 626 = .ok (.goto 4, 3) := by decide +kernel
theorem dL_refuses_629 : decode cL_refuses 629 = .ok (.iconst 0, 1) := by decide +kernel
theorem dL_refuses_630 : decode cL_refuses 630 = .ok (.istore 13, 2) := by decide +kernel
theorem dL_refuses_632 : decode cL_refuses 632 = .ok (.iload 13, 2) := by decide +kernel
theorem dL_refuses_634 : decode cL_refuses 634 = .ok (.ifCond .eq 572, 3) := by decide +kernel
theorem dL_refuses_637 : decode cL_refuses 637 = .ok (.aload_n 0, 1) := by decide +kernel
theorem dL_refuses_638 : decode cL_refuses 638 = .ok (.bipush 7, 2) := by decide +kernel
theorem dL_refuses_640 : decode cL_refuses 640 = .ok (.iload 11, 2) := by decide +kernel
theorem dL_refuses_642 : decode cL_refuses 642 = .ok (.iconst 0, 1) := by decide +kernel
theorem dL_refuses_643 : decode cL_refuses 643 = .ok (.iconst 0, 1) := by decide +kernel
theorem dL_refuses_644 : decode cL_refuses 644 = .ok (.iconst 0, 1) := by decide +kernel
theorem dL_refuses_645 : decode cL_refuses 645 = .ok (.invokestatic 121, 3) := by decide +kernel
theorem dL_refuses_648 : decode cL_refuses 648 = .ok (.ldc2_w 100, 3) := by decide +kernel
theorem dL_refuses_651 : decode cL_refuses 651 = .ok (.lcmp, 1) := by decide +kernel
theorem dL_refuses_652 : decode cL_refuses 652 = .ok (.ifCond .ne 554, 3) := by decide +kernel
theorem dL_refuses_655 : decode cL_refuses 655 = .ok (.aload_n 0, 1) := by decide +kernel
theorem dL_refuses_656 : decode cL_refuses 656 = .ok (.bipush 8, 2) := by decide +kernel
theorem dL_refuses_658 : decode cL_refuses 658 = .ok (.iload 12, 2) := by decide +kernel
theorem dL_refuses_660 : decode cL_refuses 660 = .ok (.iconst 0, 1) := by decide +kernel
theorem dL_refuses_661 : decode cL_refuses 661 = .ok (.iconst 1, 1) := by decide +kernel
theorem dL_refuses_662 : decode cL_refuses 662 = .ok (.bipush 60, 2) := by decide +kernel
theorem dL_refuses_664 : decode cL_refuses 664 = .ok (.invokestatic 121, 3) := by decide +kernel
theorem dL_refuses_667 : decode cL_refuses 667 = .ok (.ldc2_w 100, 3) := by decide +kernel
theorem dL_refuses_670 : decode cL_refuses 670 = .ok (.lcmp, 1) := by decide +kernel
theorem dL_refuses_671 : decode cL_refuses 671 = .ok (.ifCond .ne 535, 3) := by decide +kernel
theorem dL_refuses_674 : decode cL_refuses 674 = .ok (.aload_n 0, 1) := by decide +kernel
theorem dL_refuses_675 : decode cL_refuses 675 = .ok (.bipush 8, 2) := by decide +kernel
theorem dL_refuses_677 : decode cL_refuses 677 = .ok (.iconst 0, 1) := by decide +kernel
theorem dL_refuses_678 : decode cL_refuses 678 = .ok (.iload 11, 2) := by decide +kernel
theorem dL_refuses_680 : decode cL_refuses 680 = .ok (.iconst 1, 1) := by decide +kernel
theorem dL_refuses_681 : decode cL_refuses 681 = .ok (.bipush 60, 2) := by decide +kernel
theorem dL_refuses_683 : decode cL_refuses 683 = .ok (.invokestatic 121, 3) := by decide +kernel
theorem dL_refuses_686 : decode cL_refuses 686 = .ok (.ldc2_w 100, 3) := by decide +kernel
theorem dL_refuses_689 : decode cL_refuses 689 = .ok (.lcmp, 1) := by decide +kernel
theorem dL_refuses_690 : decode cL_refuses 690 = .ok (.ifCond .ne 516, 3) := by decide +kernel
theorem dL_refuses_693 : decode cL_refuses 693 = .ok (.aload_n 0, 1) := by decide +kernel
theorem dL_refuses_694 : decode cL_refuses 694 = .ok (.bipush 10, 2) := by decide +kernel
theorem dL_refuses_696 : decode cL_refuses 696 = .ok (.iload 12, 2) := by decide +kernel
theorem dL_refuses_698 : decode cL_refuses 698 = .ok (.iconst 0, 1) := by decide +kernel
theorem dL_refuses_699 : decode cL_refuses 699 = .ok (.iconst 0, 1) := by decide +kernel
theorem dL_refuses_700 : decode cL_refuses 700 = .ok (.iconst 0, 1) := by decide +kernel
theorem dL_refuses_701 : decode cL_refuses 701 = .ok (.invokestatic 121, 3) := by decide +kernel
theorem dL_refuses_704 : decode cL_refuses 704 = .ok (.ldc2_w 100, 3) := by decide +kernel
theorem dL_refuses_707 : decode cL_refuses 707 = .ok (.lcmp, 1) := by decide +kernel
theorem dL_refuses_708 : decode cL_refuses 708 = .ok (.ifCond .ne 498, 3) := by decide +kernel
theorem dL_refuses_711 : decode cL_refuses 711 = .ok (.aload_n 0, 1) := by decide +kernel
theorem dL_refuses_712 : decode cL_refuses 712 = .ok (.bipush 10, 2) := by decide +kernel
theorem dL_refuses_714 : decode cL_refuses 714 = .ok (.iconst 0, 1) := by decide +kernel
theorem dL_refuses_715 : decode cL_refuses 715 = .ok (.iload 10, 2) := by decide +kernel
theorem dL_refuses_717 : decode cL_refuses 717 = .ok (.iconst 0, 1) := by decide +kernel
theorem dL_refuses_718 : decode cL_refuses 718 = .ok (.iconst 0, 1) := by decide +kernel
theorem dL_refuses_719 : decode cL_refuses 719 = .ok (.invokestatic 121, 3) := by decide +kernel
theorem dL_refuses_722 : decode cL_refuses 722 = .ok (.ldc2_w 100, 3) := by decide +kernel
theorem dL_refuses_725 : decode cL_refuses 725 = .ok (.lcmp, 1) := by decide +kernel
theorem dL_refuses_726 : decode cL_refuses 726 = .ok (.ifCond .ne 480, 3) := by decide +kernel
theorem dL_refuses_729 : decode cL_refuses 729 = .ok (.aload_n 0, 1) := by decide +kernel
theorem dL_refuses_730 : decode cL_refuses 730 = .ok (.bipush 11, 2) := by decide +kernel
theorem dL_refuses_732 : decode cL_refuses 732 = .ok (.iload 12, 2) := by decide +kernel
theorem dL_refuses_734 : decode cL_refuses 734 = .ok (.iconst 0, 1) := by decide +kernel
theorem dL_refuses_735 : decode cL_refuses 735 = .ok (.iconst 0, 1) := by decide +kernel
theorem dL_refuses_736 : decode cL_refuses 736 = .ok (.iconst 0, 1) := by decide +kernel
theorem dL_refuses_737 : decode cL_refuses 737 = .ok (.invokestatic 121, 3) := by decide +kernel
theorem dL_refuses_740 : decode cL_refuses 740 = .ok (.ldc2_w 100, 3) := by decide +kernel
theorem dL_refuses_743 : decode cL_refuses 743 = .ok (.lcmp, 1) := by decide +kernel
theorem dL_refuses_744 : decode cL_refuses 744 = .ok (.ifCond .ne 462, 3) := by decide +kernel
theorem dL_refuses_747 : decode cL_refuses 747 = .ok (.aload_n 0, 1) := by decide +kernel
theorem dL_refuses_748 : decode cL_refuses 748 = .ok (.bipush 12, 2) := by decide +kernel
theorem dL_refuses_750 : decode cL_refuses 750 = .ok (.iload 12, 2) := by decide +kernel
theorem dL_refuses_752 : decode cL_refuses 752 = .ok (.iconst (-1), 1) := by decide +kernel
theorem dL_refuses_753 : decode cL_refuses 753 = .ok (.iconst 0, 1) := by decide +kernel
theorem dL_refuses_754 : decode cL_refuses 754 = .ok (.iconst 0, 1) := by decide +kernel
theorem dL_refuses_755 : decode cL_refuses 755 = .ok (.invokestatic 121, 3) := by decide +kernel
theorem dL_refuses_758 : decode cL_refuses 758 = .ok (.ldc2_w 100, 3) := by decide +kernel
theorem dL_refuses_761 : decode cL_refuses 761 = .ok (.lcmp, 1) := by decide +kernel
theorem dL_refuses_762 : decode cL_refuses 762 = .ok (.ifCond .ne 444, 3) := by decide +kernel
theorem dL_refuses_765 : decode cL_refuses 765 = .ok (.aload_n 0, 1) := by decide +kernel
theorem dL_refuses_766 : decode cL_refuses 766 = .ok (.bipush 12, 2) := by decide +kernel
theorem dL_refuses_768 : decode cL_refuses 768 = .ok (.iconst 0, 1) := by decide +kernel
theorem dL_refuses_769 : decode cL_refuses 769 = .ok (.iconst (-1), 1) := by decide +kernel
theorem dL_refuses_770 : decode cL_refuses 770 = .ok (.iload 10, 2) := by decide +kernel
theorem dL_refuses_772 : decode cL_refuses 772 = .ok (.iconst 0, 1) := by decide +kernel
theorem dL_refuses_773 : decode cL_refuses 773 = .ok (.invokestatic 121, 3) := by decide +kernel
theorem dL_refuses_776 : decode cL_refuses 776 = .ok (.ldc2_w 100, 3) := by decide +kernel
theorem dL_refuses_779 : decode cL_refuses 779 = .ok (.lcmp, 1) := by decide +kernel
theorem dL_refuses_780 : decode cL_refuses 780 = .ok (.ifCond .ne 426, 3) := by decide +kernel
theorem dL_refuses_783 : decode cL_refuses 783 = .ok (.aload_n 0, 1) := by decide +kernel
theorem dL_refuses_784 : decode cL_refuses 784 = .ok (.bipush 13, 2) := by decide +kernel
theorem dL_refuses_786 : decode cL_refuses 786 = .ok (.iload 12, 2) := by decide +kernel
theorem dL_refuses_788 : decode cL_refuses 788 = .ok (.bipush 9, 2) := by decide +kernel
theorem dL_refuses_790 : decode cL_refuses 790 = .ok (.iconst 0, 1) := by decide +kernel
theorem dL_refuses_791 : decode cL_refuses 791 = .ok (.iconst 0, 1) := by decide +kernel
theorem dL_refuses_792 : decode cL_refuses 792 = .ok (.invokestatic 121, 3) := by decide +kernel
theorem dL_refuses_795 : decode cL_refuses 795 = .ok (.ldc2_w 100, 3) := by decide +kernel
theorem dL_refuses_798 : decode cL_refuses 798 = .ok (.lcmp, 1) := by decide +kernel
theorem dL_refuses_799 : decode cL_refuses 799 = .ok (.ifCond .ne 407, 3) := by decide +kernel
theorem dL_refuses_802 : decode cL_refuses 802 = .ok (.aload_n 0, 1) := by decide +kernel
theorem dL_refuses_803 : decode cL_refuses 803 = .ok (.bipush 14, 2) := by decide +kernel
theorem dL_refuses_805 : decode cL_refuses 805 = .ok (.iload 12, 2) := by decide +kernel
theorem dL_refuses_807 : decode cL_refuses 807 = .ok (.iconst 0, 1) := by decide +kernel
theorem dL_refuses_808 : decode cL_refuses 808 = .ok (.iconst 0, 1) := by decide +kernel
theorem dL_refuses_809 : decode cL_refuses 809 = .ok (.iconst 0, 1) := by decide +kernel
theorem dL_refuses_810 : decode cL_refuses 810 = .ok (.invokestatic 121, 3) := by decide +kernel
theorem dL_refuses_813 : decode cL_refuses 813 = .ok (.ldc2_w 100, 3) := by decide +kernel
theorem dL_refuses_816 : decode cL_refuses 816 = .ok (.lcmp, 1) := by decide +kernel
theorem dL_refuses_817 : decode cL_refuses 817 = .ok (.ifCond .ne 389, 3) := by decide +kernel
theorem dL_refuses_820 : decode cL_refuses 820 = .ok (.aload_n 0, 1) := by decide +kernel
theorem dL_refuses_821 : decode cL_refuses 821 = .ok (.bipush 15, 2) := by decide +kernel
theorem dL_refuses_823 : decode cL_refuses 823 = .ok (.iload 12, 2) := by decide +kernel
theorem dL_refuses_825 : decode cL_refuses 825 = .ok (.iconst 0, 1) := by decide +kernel
theorem dL_refuses_826 : decode cL_refuses 826 = .ok (.bipush 9, 2) := by decide +kernel
theorem dL_refuses_828 : decode cL_refuses 828 = .ok (.iconst 0, 1) := by decide +kernel
theorem dL_refuses_829 : decode cL_refuses 829 = .ok (.invokestatic 121, 3) := by decide +kernel
theorem dL_refuses_832 : decode cL_refuses 832 = .ok (.ldc2_w 100, 3) := by decide +kernel
theorem dL_refuses_835 : decode cL_refuses 835 = .ok (.lcmp, 1) := by decide +kernel
theorem dL_refuses_836 : decode cL_refuses 836 = .ok (.ifCond .ne 370, 3) := by decide +kernel
theorem dL_refuses_839 : decode cL_refuses 839 = .ok (.aload_n 0, 1) := by decide +kernel
theorem dL_refuses_840 : decode cL_refuses 840 = .ok (.bipush 15, 2) := by decide +kernel
theorem dL_refuses_842 : decode cL_refuses 842 = .ok (.iconst 0, 1) := by decide +kernel
theorem dL_refuses_843 : decode cL_refuses 843 = .ok (.iload 10, 2) := by decide +kernel
theorem dL_refuses_845 : decode cL_refuses 845 = .ok (.bipush 9, 2) := by decide +kernel
theorem dL_refuses_847 : decode cL_refuses 847 = .ok (.iconst 0, 1) := by decide +kernel
theorem dL_refuses_848 : decode cL_refuses 848 = .ok (.invokestatic 121, 3) := by decide +kernel
theorem dL_refuses_851 : decode cL_refuses 851 = .ok (.ldc2_w 100, 3) := by decide +kernel
theorem dL_refuses_854 : decode cL_refuses 854 = .ok (.lcmp, 1) := by decide +kernel
theorem dL_refuses_855 : decode cL_refuses 855 = .ok (.ifCond .ne 351, 3) := by decide +kernel
theorem dL_refuses_858 : decode cL_refuses 858 = .ok (.aload_n 0, 1) := by decide +kernel
theorem dL_refuses_859 : decode cL_refuses 859 = .ok (.bipush 16, 2) := by decide +kernel
theorem dL_refuses_861 : decode cL_refuses 861 = .ok (.iload 8, 2) := by decide +kernel
theorem dL_refuses_863 : decode cL_refuses 863 = .ok (.iconst 1, 1) := by decide +kernel
theorem dL_refuses_864 : decode cL_refuses 864 = .ok (.if_icmp .ne 9, 3) := by decide +kernel
theorem dL_refuses_867 : decode cL_refuses 867 = .ok (.sipush 10000, 3) := by decide +kernel
theorem dL_refuses_870 : decode cL_refuses 870 = .ok (.goto 5, 3) := by decide +kernel
theorem dL_refuses_873 : decode cL_refuses 873 = .ok (.iload 9, 2) := by decide +kernel
theorem dL_refuses_875 : decode cL_refuses 875 = .ok (.sipush 10001, 3) := by decide +kernel
theorem dL_refuses_878 : decode cL_refuses 878 = .ok (.iconst 0, 1) := by decide +kernel
theorem dL_refuses_879 : decode cL_refuses 879 = .ok (.iconst 0, 1) := by decide +kernel
theorem dL_refuses_880 : decode cL_refuses 880 = .ok (.invokestatic 121, 3) := by decide +kernel
theorem dL_refuses_883 : decode cL_refuses 883 = .ok (.ldc2_w 104, 3) := by decide +kernel
theorem dL_refuses_886 : decode cL_refuses 886 = .ok (.lcmp, 1) := by decide +kernel
theorem dL_refuses_887 : decode cL_refuses 887 = .ok (.ifCond .ne 319, 3) := by decide +kernel
theorem dL_refuses_890 : decode cL_refuses 890 = .ok (.aload_n 0, 1) := by decide +kernel
theorem dL_refuses_891 : decode cL_refuses 891 = .ok (.bipush 16, 2) := by decide +kernel
theorem dL_refuses_893 : decode cL_refuses 893 = .ok (.iconst 5, 1) := by decide +kernel
theorem dL_refuses_894 : decode cL_refuses 894 = .ok (.iload 8, 2) := by decide +kernel
theorem dL_refuses_896 : decode cL_refuses 896 = .ok (.ifCond .ne 7, 3) := by decide +kernel
theorem dL_refuses_899 : decode cL_refuses 899 = .ok (.iconst 4, 1) := by decide +kernel
theorem dL_refuses_900 : decode cL_refuses 900 = .ok (.goto 17, 3) := by decide +kernel
theorem dL_refuses_903 : decode cL_refuses 903 = .ok (.iload 8, 2) := by decide +kernel
theorem dL_refuses_905 : decode cL_refuses 905 = .ok (.iconst 1, 1) := by decide +kernel
theorem dL_refuses_906 : decode cL_refuses 906 = .ok (.if_icmp .ne 9, 3) := by decide +kernel
theorem dL_refuses_909 : decode cL_refuses 909 = .ok (.sipush 10000, 3) := by decide +kernel
theorem dL_refuses_912 : decode cL_refuses 912 = .ok (.goto 5, 3) := by decide +kernel
theorem dL_refuses_915 : decode cL_refuses 915 = .ok (.iload 9, 2) := by decide +kernel
theorem dL_refuses_917 : decode cL_refuses 917 = .ok (.iconst 0, 1) := by decide +kernel
theorem dL_refuses_918 : decode cL_refuses 918 = .ok (.iconst 0, 1) := by decide +kernel
theorem dL_refuses_919 : decode cL_refuses 919 = .ok (.invokestatic 121, 3) := by decide +kernel
theorem dL_refuses_922 : decode cL_refuses 922 = .ok (.ldc2_w 104, 3) := by decide +kernel
theorem dL_refuses_925 : decode cL_refuses 925 = .ok (.lcmp, 1) := by decide +kernel
theorem dL_refuses_926 : decode cL_refuses 926 = .ok (.ifCond .ne 280, 3) := by decide +kernel
theorem dL_refuses_929 : decode cL_refuses 929 = .ok (.aload_n 0, 1) := by decide +kernel
theorem dL_refuses_930 : decode cL_refuses 930 = .ok (.bipush 17, 2) := by decide +kernel
theorem dL_refuses_932 : decode cL_refuses 932 = .ok (.iload 8, 2) := by decide +kernel
theorem dL_refuses_934 : decode cL_refuses 934 = .ok (.iconst 1, 1) := by decide +kernel
theorem dL_refuses_935 : decode cL_refuses 935 = .ok (.if_icmp .ne 8, 3) := by decide +kernel
theorem dL_refuses_938 : decode cL_refuses 938 = .ok (.bipush 6, 2) := by decide +kernel
theorem dL_refuses_940 : decode cL_refuses 940 = .ok (.goto 5, 3) := by decide +kernel
theorem dL_refuses_943 : decode cL_refuses 943 = .ok (.iload 9, 2) := by decide +kernel
theorem dL_refuses_945 : decode cL_refuses 945 = .ok (.iconst 0, 1) := by decide +kernel
theorem dL_refuses_946 : decode cL_refuses 946 = .ok (.iconst (-1), 1) := by decide +kernel
theorem dL_refuses_947 : decode cL_refuses 947 = .ok (.iconst 0, 1) := by decide +kernel
theorem dL_refuses_948 : decode cL_refuses 948 = .ok (.invokestatic 121, 3) := by decide +kernel
theorem dL_refuses_951 : decode cL_refuses 951 = .ok (.ldc2_w 100, 3) := by decide +kernel
theorem dL_refuses_954 : decode cL_refuses 954 = .ok (.lcmp, 1) := by decide +kernel
theorem dL_refuses_955 : decode cL_refuses 955 = .ok (.ifCond .ne 251, 3) := by decide +kernel
theorem dL_refuses_958 : decode cL_refuses 958 = .ok (.aload_n 0, 1) := by decide +kernel
theorem dL_refuses_959 : decode cL_refuses 959 = .ok (.bipush 17, 2) := by decide +kernel
theorem dL_refuses_961 : decode cL_refuses 961 = .ok (.iconst 0, 1) := by decide +kernel
theorem dL_refuses_962 : decode cL_refuses 962 = .ok (.iload 8, 2) := by decide +kernel
theorem dL_refuses_964 : decode cL_refuses 964 = .ok (.iconst 1, 1) := by decide +kernel
theorem dL_refuses_965 : decode cL_refuses 965 = .ok (.if_icmp .ne 7, 3) := by decide +kernel
theorem dL_refuses_968 : decode cL_refuses 968 = .ok (.iconst 4, 1) := by decide +kernel
theorem dL_refuses_969 : decode cL_refuses 969 = .ok (.goto 5, 3) := by decide +kernel
theorem dL_refuses_972 : decode cL_refuses 972 = .ok (.iload 9, 2) := by decide +kernel
theorem dL_refuses_974 : decode cL_refuses 974 = .ok (.iconst (-1), 1) := by decide +kernel
theorem dL_refuses_975 : decode cL_refuses 975 = .ok (.iconst 0, 1) := by decide +kernel
theorem dL_refuses_976 : decode cL_refuses 976 = .ok (.invokestatic 121, 3) := by decide +kernel
theorem dL_refuses_979 : decode cL_refuses 979 = .ok (.ldc2_w 100, 3) := by decide +kernel
theorem dL_refuses_982 : decode cL_refuses 982 = .ok (.lcmp, 1) := by decide +kernel
theorem dL_refuses_983 : decode cL_refuses 983 = .ok (.ifCond .ne 223, 3) := by decide +kernel
theorem dL_refuses_986 : decode cL_refuses 986 = .ok (.aload_n 0, 1) := by decide +kernel
theorem dL_refuses_987 : decode cL_refuses 987 = .ok (.bipush 17, 2) := by decide +kernel
theorem dL_refuses_989 : decode cL_refuses 989 = .ok (.iconst 0, 1) := by decide +kernel
theorem dL_refuses_990 : decode cL_refuses 990 = .ok (.iconst 0, 1) := by decide +kernel
theorem dL_refuses_991 : decode cL_refuses 991 = .ok (.iload 8, 2) := by decide +kernel
theorem dL_refuses_993 : decode cL_refuses 993 = .ok (.iconst 1, 1) := by decide +kernel
theorem dL_refuses_994 : decode cL_refuses 994 = .ok (.if_icmp .ne 9, 3) := by decide +kernel
theorem dL_refuses_997 : decode cL_refuses 997 = .ok (.sipush 1001, 3) := by decide +kernel
theorem dL_refuses_1000 : decode cL_refuses 1000 = .ok (.goto 5, 3) := by decide +kernel
theorem dL_refuses_1003 : decode cL_refuses 1003 = .ok (.iload 9, 2) := by decide +kernel
theorem dL_refuses_1005 : decode cL_refuses 1005 = .ok (.iconst 0, 1) := by decide +kernel
theorem dL_refuses_1006 : decode cL_refuses 1006 = .ok (.invokestatic 121, 3) := by decide +kernel
theorem dL_refuses_1009 : decode cL_refuses 1009 = .ok (.ldc2_w 104, 3) := by decide +kernel
theorem dL_refuses_1012 : decode cL_refuses 1012 = .ok (.lcmp, 1) := by decide +kernel
theorem dL_refuses_1013 : decode cL_refuses 1013 = .ok (.ifCond .ne 193, 3) := by decide +kernel
theorem dL_refuses_1016 : decode cL_refuses 1016 = .ok (.aload_n 0, 1) := by decide +kernel
theorem dL_refuses_1017 : decode cL_refuses 1017 = .ok (.bipush 18, 2) := by decide +kernel
theorem dL_refuses_1019 : decode cL_refuses 1019 = .ok (.iload 8, 2) := by decide +kernel
theorem dL_refuses_1021 : decode cL_refuses 1021 = .ok (.iconst 1, 1) := by decide +kernel
theorem dL_refuses_1022 : decode cL_refuses 1022 = .ok (.if_icmp .ne 8, 3) := by decide +kernel
theorem dL_refuses_1025 : decode cL_refuses 1025 = .ok (.bipush 6, 2) := by decide +kernel
theorem dL_refuses_1027 : decode cL_refuses 1027 = .ok (.goto 5, 3) := by decide +kernel
theorem dL_refuses_1030 : decode cL_refuses 1030 = .ok (.iload 9, 2) := by decide +kernel
theorem dL_refuses_1032 : decode cL_refuses 1032 = .ok (.iconst (-1), 1) := by decide +kernel
theorem dL_refuses_1033 : decode cL_refuses 1033 = .ok (.iconst 0, 1) := by decide +kernel
theorem dL_refuses_1034 : decode cL_refuses 1034 = .ok (.iconst 0, 1) := by decide +kernel
theorem dL_refuses_1035 : decode cL_refuses 1035 = .ok (.invokestatic 121, 3) := by decide +kernel
theorem dL_refuses_1038 : decode cL_refuses 1038 = .ok (.ldc2_w 100, 3) := by decide +kernel
theorem dL_refuses_1041 : decode cL_refuses 1041 = .ok (.lcmp, 1) := by decide +kernel
theorem dL_refuses_1042 : decode cL_refuses 1042 = .ok (.ifCond .ne 164, 3) := by decide +kernel
theorem dL_refuses_1045 : decode cL_refuses 1045 = .ok (.aload_n 0, 1) := by decide +kernel
theorem dL_refuses_1046 : decode cL_refuses 1046 = .ok (.bipush 18, 2) := by decide +kernel
theorem dL_refuses_1048 : decode cL_refuses 1048 = .ok (.iconst 0, 1) := by decide +kernel
theorem dL_refuses_1049 : decode cL_refuses 1049 = .ok (.iload 8, 2) := by decide +kernel
theorem dL_refuses_1051 : decode cL_refuses 1051 = .ok (.iconst 1, 1) := by decide +kernel
theorem dL_refuses_1052 : decode cL_refuses 1052 = .ok (.if_icmp .ne 9, 3) := by decide +kernel
theorem dL_refuses_1055 : decode cL_refuses 1055 = .ok (.sipush 1001, 3) := by decide +kernel
theorem dL_refuses_1058 : decode cL_refuses 1058 = .ok (.goto 5, 3) := by decide +kernel
theorem dL_refuses_1061 : decode cL_refuses 1061 = .ok (.iload 9, 2) := by decide +kernel
theorem dL_refuses_1063 : decode cL_refuses 1063 = .ok (.iconst 0, 1) := by decide +kernel
theorem dL_refuses_1064 : decode cL_refuses 1064 = .ok (.iconst 0, 1) := by decide +kernel
theorem dL_refuses_1065 : decode cL_refuses 1065 = .ok (.invokestatic 121, 3) := by decide +kernel
theorem dL_refuses_1068 : decode cL_refuses 1068 = .ok (.ldc2_w 104, 3) := by decide +kernel
theorem dL_refuses_1071 : decode cL_refuses 1071 = .ok (.lcmp, 1) := by decide +kernel
theorem dL_refuses_1072 : decode cL_refuses 1072 = .ok (.ifCond .ne 134, 3) := by decide +kernel
theorem dL_refuses_1075 : decode cL_refuses 1075 = .ok (.aload_n 0, 1) := by decide +kernel
theorem dL_refuses_1076 : decode cL_refuses 1076 = .ok (.bipush 19, 2) := by decide +kernel
theorem dL_refuses_1078 : decode cL_refuses 1078 = .ok (.iload 8, 2) := by decide +kernel
theorem dL_refuses_1080 : decode cL_refuses 1080 = .ok (.iconst 1, 1) := by decide +kernel
theorem dL_refuses_1081 : decode cL_refuses 1081 = .ok (.if_icmp .ne 8, 3) := by decide +kernel
theorem dL_refuses_1084 : decode cL_refuses 1084 = .ok (.bipush 6, 2) := by decide +kernel
theorem dL_refuses_1086 : decode cL_refuses 1086 = .ok (.goto 5, 3) := by decide +kernel
theorem dL_refuses_1089 : decode cL_refuses 1089 = .ok (.iload 9, 2) := by decide +kernel
theorem dL_refuses_1091 : decode cL_refuses 1091 = .ok (.iconst 0, 1) := by decide +kernel
theorem dL_refuses_1092 : decode cL_refuses 1092 = .ok (.iconst 0, 1) := by decide +kernel
theorem dL_refuses_1093 : decode cL_refuses 1093 = .ok (.iconst 0, 1) := by decide +kernel
theorem dL_refuses_1094 : decode cL_refuses 1094 = .ok (.invokestatic 121, 3) := by decide +kernel
theorem dL_refuses_1097 : decode cL_refuses 1097 = .ok (.ldc2_w 104, 3) := by decide +kernel
theorem dL_refuses_1100 : decode cL_refuses 1100 = .ok (.lcmp, 1) := by decide +kernel
theorem dL_refuses_1101 : decode cL_refuses 1101 = .ok (.ifCond .ne 105, 3) := by decide +kernel
theorem dL_refuses_1104 : decode cL_refuses 1104 = .ok (.aload_n 0, 1) := by decide +kernel
theorem dL_refuses_1105 : decode cL_refuses 1105 = .ok (.bipush 20, 2) := by decide +kernel
theorem dL_refuses_1107 : decode cL_refuses 1107 = .ok (.iload 8, 2) := by decide +kernel
theorem dL_refuses_1109 : decode cL_refuses 1109 = .ok (.ifCond .ne 7, 3) := by decide +kernel
theorem dL_refuses_1112 : decode cL_refuses 1112 = .ok (.iconst 0, 1) := by decide +kernel
theorem dL_refuses_1113 : decode cL_refuses 1113 = .ok (.goto 17, 3) := by decide +kernel
theorem dL_refuses_1116 : decode cL_refuses 1116 = .ok (.iload 8, 2) := by decide +kernel
theorem dL_refuses_1118 : decode cL_refuses 1118 = .ok (.iconst 1, 1) := by decide +kernel
theorem dL_refuses_1119 : decode cL_refuses 1119 = .ok (.if_icmp .ne 9, 3) := by decide +kernel
theorem dL_refuses_1122 : decode cL_refuses 1122 = .ok (.sipush 10000, 3) := by decide +kernel
theorem dL_refuses_1125 : decode cL_refuses 1125 = .ok (.goto 5, 3) := by decide +kernel
theorem dL_refuses_1128 : decode cL_refuses 1128 = .ok (.iload 9, 2) := by decide +kernel
theorem dL_refuses_1130 : decode cL_refuses 1130 = .ok (.iconst 0, 1) := by decide +kernel
theorem dL_refuses_1131 : decode cL_refuses 1131 = .ok (.iconst 0, 1) := by decide +kernel
theorem dL_refuses_1132 : decode cL_refuses 1132 = .ok (.iconst 0, 1) := by decide +kernel
theorem dL_refuses_1133 : decode cL_refuses 1133 = .ok (.invokestatic 121, 3) := by decide +kernel
theorem dL_refuses_1136 : decode cL_refuses 1136 = .ok (.ldc2_w 104, 3) := by decide +kernel
theorem dL_refuses_1139 : decode cL_refuses 1139 = .ok (.lcmp, 1) := by decide +kernel
theorem dL_refuses_1140 : decode cL_refuses 1140 = .ok (.ifCond .ne 66, 3) := by decide +kernel
theorem dL_refuses_1143 : decode cL_refuses 1143 = .ok (.aload_n 0, 1) := by decide +kernel
theorem dL_refuses_1144 : decode cL_refuses 1144 = .ok (.bipush 20, 2) := by decide +kernel
theorem dL_refuses_1146 : decode cL_refuses 1146 = .ok (.iconst 1, 1) := by decide +kernel
theorem dL_refuses_1147 : decode cL_refuses 1147 = .ok (.iload 8, 2) := by decide +kernel
theorem dL_refuses_1149 : decode cL_refuses 1149 = .ok (.iconst 1, 1) := by decide +kernel
theorem dL_refuses_1150 : decode cL_refuses 1150 = .ok (.if_icmp .ne 8, 3) := by decide +kernel
theorem dL_refuses_1153 : decode cL_refuses 1153 = .ok (.bipush 61, 2) := by decide +kernel
theorem dL_refuses_1155 : decode cL_refuses 1155 = .ok (.goto 5, 3) := by decide +kernel
theorem dL_refuses_1158 : decode cL_refuses 1158 = .ok (.iload 9, 2) := by decide +kernel
theorem dL_refuses_1160 : decode cL_refuses 1160 = .ok (.iconst 0, 1) := by decide +kernel
theorem dL_refuses_1161 : decode cL_refuses 1161 = .ok (.iconst 0, 1) := by decide +kernel
theorem dL_refuses_1162 : decode cL_refuses 1162 = .ok (.invokestatic 121, 3) := by decide +kernel
theorem dL_refuses_1165 : decode cL_refuses 1165 = .ok (.ldc2_w 104, 3) := by decide +kernel
theorem dL_refuses_1168 : decode cL_refuses 1168 = .ok (.lcmp, 1) := by decide +kernel
theorem dL_refuses_1169 : decode cL_refuses 1169 = .ok (.ifCond .ne 37, 3) := by decide +kernel
theorem dL_refuses_1172 : decode cL_refuses 1172 = .ok (.aload_n 0, 1) := by decide +kernel
theorem dL_refuses_1173 : decode cL_refuses 1173 = .ok (.iload 12, 2) := by decide +kernel
theorem dL_refuses_1175 : decode cL_refuses 1175 = .ok (.iconst 0, 1) := by decide +kernel
theorem dL_refuses_1176 : decode cL_refuses 1176 = .ok (.iconst 0, 1) := by decide +kernel
theorem dL_refuses_1177 : decode cL_refuses 1177 = .ok (.iconst 0, 1) := by decide +kernel
theorem dL_refuses_1178 : decode cL_refuses 1178 = .ok (.iconst 0, 1) := by decide +kernel
theorem dL_refuses_1179 : decode cL_refuses 1179 = .ok (.invokestatic 125, 3) := by decide +kernel
theorem dL_refuses_1182 : decode cL_refuses 1182 = .ok (.bipush (-71), 2) := by decide +kernel
theorem dL_refuses_1184 : decode cL_refuses 1184 = .ok (.if_icmp .ne 22, 3) := by decide +kernel
theorem dL_refuses_1187 : decode cL_refuses 1187 = .ok (.aload_n 0, 1) := by decide +kernel
theorem dL_refuses_1188 : decode cL_refuses 1188 = .ok (.iconst 0, 1) := by decide +kernel
theorem dL_refuses_1189 : decode cL_refuses 1189 = .ok (.iconst 0, 1) := by decide +kernel
theorem dL_refuses_1190 : decode cL_refuses 1190 = .ok (.iload 10, 2) := by decide +kernel
theorem dL_refuses_1192 : decode cL_refuses 1192 = .ok (.iconst 0, 1) := by decide +kernel
theorem dL_refuses_1193 : decode cL_refuses 1193 = .ok (.iconst 0, 1) := by decide +kernel
theorem dL_refuses_1194 : decode cL_refuses 1194 = .ok (.invokestatic 125, 3) := by decide +kernel
theorem dL_refuses_1197 : decode cL_refuses 1197 = .ok (.bipush (-71), 2) := by decide +kernel
theorem dL_refuses_1199 : decode cL_refuses 1199 = .ok (.if_icmp .ne 7, 3) := by decide +kernel
theorem dL_refuses_1202 : decode cL_refuses 1202 = .ok (.iconst 1, 1) := by decide +kernel
theorem dL_refuses_1203 : decode cL_refuses 1203 = .ok (.goto 4, 3) := by decide +kernel
theorem dL_refuses_1206 : decode cL_refuses 1206 = .ok (.iconst 0, 1) := by decide +kernel
theorem dL_refuses_1207 : decode cL_refuses 1207 = .ok (.istore 13, 2) := by decide +kernel
theorem dL_refuses_1209 : decode cL_refuses 1209 = .ok (.iload 13, 2) := by decide +kernel
theorem dL_refuses_1211 : decode cL_refuses 1211 = .ok (.ifCond .eq 475, 3) := by decide +kernel
theorem dL_refuses_1214 : decode cL_refuses 1214 = .ok (.iload_n 2, 1) := by decide +kernel
theorem dL_refuses_1215 : decode cL_refuses 1215 = .ok (.ifCond .eq 98, 3) := by decide +kernel
theorem dL_refuses_1218 : decode cL_refuses 1218 = .ok (.aload_n 0, 1) := by decide +kernel
theorem dL_refuses_1219 : decode cL_refuses 1219 = .ok (.iconst 0, 1) := by decide +kernel
theorem dL_refuses_1220 : decode cL_refuses 1220 = .ok (.iconst 4, 1) := by decide +kernel
theorem dL_refuses_1221 : decode cL_refuses 1221 = .ok (.iconst 0, 1) := by decide +kernel
theorem dL_refuses_1222 : decode cL_refuses 1222 = .ok (.iconst 0, 1) := by decide +kernel
theorem dL_refuses_1223 : decode cL_refuses 1223 = .ok (.iconst 0, 1) := by decide +kernel
theorem dL_refuses_1224 : decode cL_refuses 1224 = .ok (.invokestatic 121, 3) := by decide +kernel
theorem dL_refuses_1227 : decode cL_refuses 1227 = .ok (.ldc2_w 108, 3) := by decide +kernel
theorem dL_refuses_1230 : decode cL_refuses 1230 = .ok (.lcmp, 1) := by decide +kernel
theorem dL_refuses_1231 : decode cL_refuses 1231 = .ok (.ifCond .ne 455, 3) := by decide +kernel
theorem dL_refuses_1234 : decode cL_refuses 1234 = .ok (.aload_n 0, 1) := by decide +kernel
theorem dL_refuses_1235 : decode cL_refuses 1235 = .ok (.bipush 7, 2) := by decide +kernel
theorem dL_refuses_1237 : decode cL_refuses 1237 = .ok (.iconst 0, 1) := by decide +kernel
theorem dL_refuses_1238 : decode cL_refuses 1238 = .ok (.iload 8, 2) := by decide +kernel
theorem dL_refuses_1240 : decode cL_refuses 1240 = .ok (.ifCond .ne 7, 3) := by decide +kernel
theorem dL_refuses_1243 : decode cL_refuses 1243 = .ok (.iconst 0, 1) := by decide +kernel
theorem dL_refuses_1244 : decode cL_refuses 1244 = .ok (.goto 16, 3) := by decide +kernel
theorem dL_refuses_1247 : decode cL_refuses 1247 = .ok (.iload 8, 2) := by decide +kernel
theorem dL_refuses_1249 : decode cL_refuses 1249 = .ok (.iconst 1, 1) := by decide +kernel
theorem dL_refuses_1250 : decode cL_refuses 1250 = .ok (.if_icmp .ne 8, 3) := by decide +kernel
theorem dL_refuses_1253 : decode cL_refuses 1253 = .ok (.bipush 65, 2) := by decide +kernel
theorem dL_refuses_1255 : decode cL_refuses 1255 = .ok (.goto 5, 3) := by decide +kernel
theorem dL_refuses_1258 : decode cL_refuses 1258 = .ok (.iload 9, 2) := by decide +kernel
theorem dL_refuses_1260 : decode cL_refuses 1260 = .ok (.bipush 60, 2) := by decide +kernel
theorem dL_refuses_1262 : decode cL_refuses 1262 = .ok (.iconst 0, 1) := by decide +kernel
theorem dL_refuses_1263 : decode cL_refuses 1263 = .ok (.invokestatic 121, 3) := by decide +kernel
theorem dL_refuses_1266 : decode cL_refuses 1266 = .ok (.ldc2_w 104, 3) := by decide +kernel
theorem dL_refuses_1269 : decode cL_refuses 1269 = .ok (.lcmp, 1) := by decide +kernel
theorem dL_refuses_1270 : decode cL_refuses 1270 = .ok (.ifCond .ne 416, 3) := by decide +kernel
theorem dL_refuses_1273 : decode cL_refuses 1273 = .ok (.aload_n 0, 1) := by decide +kernel
theorem dL_refuses_1274 : decode cL_refuses 1274 = .ok (.bipush 7, 2) := by decide +kernel
theorem dL_refuses_1276 : decode cL_refuses 1276 = .ok (.iconst 0, 1) := by decide +kernel
theorem dL_refuses_1277 : decode cL_refuses 1277 = .ok (.iconst 1, 1) := by decide +kernel
theorem dL_refuses_1278 : decode cL_refuses 1278 = .ok (.iload 8, 2) := by decide +kernel
theorem dL_refuses_1280 : decode cL_refuses 1280 = .ok (.ifCond .ne 8, 3) := by decide +kernel
theorem dL_refuses_1283 : decode cL_refuses 1283 = .ok (.bipush 59, 2) := by decide +kernel
theorem dL_refuses_1285 : decode cL_refuses 1285 = .ok (.goto 17, 3) := by decide +kernel
theorem dL_refuses_1288 : decode cL_refuses 1288 = .ok (.iload 8, 2) := by decide +kernel
theorem dL_refuses_1290 : decode cL_refuses 1290 = .ok (.iconst 1, 1) := by decide +kernel
theorem dL_refuses_1291 : decode cL_refuses 1291 = .ok (.if_icmp .ne 9, 3) := by decide +kernel
theorem dL_refuses_1294 : decode cL_refuses 1294 = .ok (.sipush 241, 3) := by decide +kernel
theorem dL_refuses_1297 : decode cL_refuses 1297 = .ok (.goto 5, 3) := by decide +kernel
theorem dL_refuses_1300 : decode cL_refuses 1300 = .ok (.iload 9, 2) := by decide +kernel
theorem dL_refuses_1302 : decode cL_refuses 1302 = .ok (.iconst 0, 1) := by decide +kernel
theorem dL_refuses_1303 : decode cL_refuses 1303 = .ok (.invokestatic 121, 3) := by decide +kernel
theorem dL_refuses_1306 : decode cL_refuses 1306 = .ok (.ldc2_w 104, 3) := by decide +kernel
theorem dL_refuses_1309 : decode cL_refuses 1309 = .ok (.lcmp, 1) := by decide +kernel
theorem dL_refuses_1310 : decode cL_refuses 1310 = .ok (.ifCond .ne 376, 3) := by decide +kernel
theorem dL_refuses_1313 : decode cL_refuses 1313 = .ok (.iload_n 3, 1) := by decide +kernel
theorem dL_refuses_1314 : decode cL_refuses 1314 = .ok (.ifCond .eq 368, 3) := by decide +kernel
theorem dL_refuses_1317 : decode cL_refuses 1317 = .ok (.aload_n 0, 1) := by decide +kernel
theorem dL_refuses_1318 : decode cL_refuses 1318 = .ok (.bipush 8, 2) := by decide +kernel
theorem dL_refuses_1320 : decode cL_refuses 1320 = .ok (.iconst 0, 1) := by decide +kernel
theorem dL_refuses_1321 : decode cL_refuses 1321 = .ok (.iconst 0, 1) := by decide +kernel
theorem dL_refuses_1322 : decode cL_refuses 1322 = .ok (.iload 8, 2) := by decide +kernel
theorem dL_refuses_1324 : decode cL_refuses 1324 = .ok (.ifCond .ne 7, 3) := by decide +kernel
theorem dL_refuses_1327 : decode cL_refuses 1327 = .ok (.iconst 0, 1) := by decide +kernel
theorem dL_refuses_1328 : decode cL_refuses 1328 = .ok (.goto 16, 3) := by decide +kernel
theorem dL_refuses_1331 : decode cL_refuses 1331 = .ok (.iload 8, 2) := by decide +kernel
theorem dL_refuses_1333 : decode cL_refuses 1333 = .ok (.iconst 1, 1) := by decide +kernel
theorem dL_refuses_1334 : decode cL_refuses 1334 = .ok (.if_icmp .ne 8, 3) := by decide +kernel
theorem dL_refuses_1337 : decode cL_refuses 1337 = .ok (.bipush 65, 2) := by decide +kernel
theorem dL_refuses_1339 : decode cL_refuses 1339 = .ok (.goto 5, 3) := by decide +kernel
theorem dL_refuses_1342 : decode cL_refuses 1342 = .ok (.iload 9, 2) := by decide +kernel
theorem dL_refuses_1344 : decode cL_refuses 1344 = .ok (.bipush 60, 2) := by decide +kernel
theorem dL_refuses_1346 : decode cL_refuses 1346 = .ok (.invokestatic 121, 3) := by decide +kernel
theorem dL_refuses_1349 : decode cL_refuses 1349 = .ok (.ldc2_w 104, 3) := by decide +kernel
theorem dL_refuses_1352 : decode cL_refuses 1352 = .ok (.lcmp, 1) := by decide +kernel
theorem dL_refuses_1353 : decode cL_refuses 1353 = .ok (.ifCond .ne 333, 3) := by decide +kernel
theorem dL_refuses_1356 : decode cL_refuses 1356 = .ok (.aload_n 0, 1) := by decide +kernel
theorem dL_refuses_1357 : decode cL_refuses 1357 = .ok (.bipush 8, 2) := by decide +kernel
theorem dL_refuses_1359 : decode cL_refuses 1359 = .ok (.iconst 0, 1) := by decide +kernel
theorem dL_refuses_1360 : decode cL_refuses 1360 = .ok (.iconst 0, 1) := by decide +kernel
theorem dL_refuses_1361 : decode cL_refuses 1361 = .ok (.iconst 1, 1) := by decide +kernel
theorem dL_refuses_1362 : decode cL_refuses 1362 = .ok (.iload 8, 2) := by decide +kernel
theorem dL_refuses_1364 : decode cL_refuses 1364 = .ok (.ifCond .ne 8, 3) := by decide +kernel
theorem dL_refuses_1367 : decode cL_refuses 1367 = .ok (.bipush 59, 2) := by decide +kernel
theorem dL_refuses_1369 : decode cL_refuses 1369 = .ok (.goto 17, 3) := by decide +kernel
theorem dL_refuses_1372 : decode cL_refuses 1372 = .ok (.iload 8, 2) := by decide +kernel
theorem dL_refuses_1374 : decode cL_refuses 1374 = .ok (.iconst 1, 1) := by decide +kernel
theorem dL_refuses_1375 : decode cL_refuses 1375 = .ok (.if_icmp .ne 9, 3) := by decide +kernel
theorem dL_refuses_1378 : decode cL_refuses 1378 = .ok (.sipush 241, 3) := by decide +kernel
theorem dL_refuses_1381 : decode cL_refuses 1381 = .ok (.goto 5, 3) := by decide +kernel
theorem dL_refuses_1384 : decode cL_refuses 1384 = .ok (.iload 9, 2) := by decide +kernel
theorem dL_refuses_1386 : decode cL_refuses 1386 = .ok (.invokestatic 121, 3) := by decide +kernel
theorem dL_refuses_1389 : decode cL_refuses 1389 = .ok (.ldc2_w 104, 3) := by decide +kernel
theorem dL_refuses_1392 : decode cL_refuses 1392 = .ok (.lcmp, 1) := by decide +kernel
theorem dL_refuses_1393 : decode cL_refuses 1393 = .ok (.ifCond .ne 293, 3) := by decide +kernel
theorem dL_refuses_1396 : decode cL_refuses 1396 = .ok (.aload_n 0, 1) := by decide +kernel
theorem dL_refuses_1397 : decode cL_refuses 1397 = .ok (.bipush 12, 2) := by decide +kernel
theorem dL_refuses_1399 : decode cL_refuses 1399 = .ok (.iconst 0, 1) := by decide +kernel
theorem dL_refuses_1400 : decode cL_refuses 1400 = .ok (.iload 8, 2) := by decide +kernel
theorem dL_refuses_1402 : decode cL_refuses 1402 = .ok (.iconst 1, 1) := by decide +kernel
theorem dL_refuses_1403 : decode cL_refuses 1403 = .ok (.if_icmp .ne 10, 3) := by decide +kernel
theorem dL_refuses_1406 : decode cL_refuses 1406 = .ok (.iload 4, 2) := by decide +kernel
theorem dL_refuses_1408 : decode cL_refuses 1408 = .ok (.iconst 1, 1) := by decide +kernel
theorem dL_refuses_1409 : decode cL_refuses 1409 = .ok (.iadd, 1) := by decide +kernel
theorem dL_refuses_1410 : decode cL_refuses 1410 = .ok (.goto 5, 3) := by decide +kernel
theorem dL_refuses_1413 : decode cL_refuses 1413 = .ok (.iload 9, 2) := by decide +kernel
theorem dL_refuses_1415 : decode cL_refuses 1415 = .ok (.iconst 0, 1) := by decide +kernel
theorem dL_refuses_1416 : decode cL_refuses 1416 = .ok (.iconst 0, 1) := by decide +kernel
theorem dL_refuses_1417 : decode cL_refuses 1417 = .ok (.invokestatic 121, 3) := by decide +kernel
theorem dL_refuses_1420 : decode cL_refuses 1420 = .ok (.ldc2_w 104, 3) := by decide +kernel
theorem dL_refuses_1423 : decode cL_refuses 1423 = .ok (.lcmp, 1) := by decide +kernel
theorem dL_refuses_1424 : decode cL_refuses 1424 = .ok (.ifCond .ne 262, 3) := by decide +kernel
theorem dL_refuses_1427 : decode cL_refuses 1427 = .ok (.aload_n 0, 1) := by decide +kernel
theorem dL_refuses_1428 : decode cL_refuses 1428 = .ok (.bipush 13, 2) := by decide +kernel
theorem dL_refuses_1430 : decode cL_refuses 1430 = .ok (.iconst 0, 1) := by decide +kernel
theorem dL_refuses_1431 : decode cL_refuses 1431 = .ok (.iload 8, 2) := by decide +kernel
theorem dL_refuses_1433 : decode cL_refuses 1433 = .ok (.iconst 1, 1) := by decide +kernel
theorem dL_refuses_1434 : decode cL_refuses 1434 = .ok (.if_icmp .ne 7, 3) := by decide +kernel
theorem dL_refuses_1437 : decode cL_refuses 1437 = .ok (.iconst 4, 1) := by decide +kernel
theorem dL_refuses_1438 : decode cL_refuses 1438 = .ok (.goto 5, 3) := by decide +kernel
theorem dL_refuses_1441 : decode cL_refuses 1441 = .ok (.iload 9, 2) := by decide +kernel
theorem dL_refuses_1443 : decode cL_refuses 1443 = .ok (.iconst 0, 1) := by decide +kernel
theorem dL_refuses_1444 : decode cL_refuses 1444 = .ok (.iconst 0, 1) := by decide +kernel
theorem dL_refuses_1445 : decode cL_refuses 1445 = .ok (.invokestatic 121, 3) := by decide +kernel
theorem dL_refuses_1448 : decode cL_refuses 1448 = .ok (.ldc2_w 104, 3) := by decide +kernel
theorem dL_refuses_1451 : decode cL_refuses 1451 = .ok (.lcmp, 1) := by decide +kernel
theorem dL_refuses_1452 : decode cL_refuses 1452 = .ok (.ifCond .ne 234, 3) := by decide +kernel
theorem dL_refuses_1455 : decode cL_refuses 1455 = .ok (.aload_n 0, 1) := by decide +kernel
theorem dL_refuses_1456 : decode cL_refuses 1456 = .ok (.bipush 14, 2) := by decide +kernel
theorem dL_refuses_1458 : decode cL_refuses 1458 = .ok (.iconst 0, 1) := by decide +kernel
theorem dL_refuses_1459 : decode cL_refuses 1459 = .ok (.iload 8, 2) := by decide +kernel
theorem dL_refuses_1461 : decode cL_refuses 1461 = .ok (.iconst 1, 1) := by decide +kernel
theorem dL_refuses_1462 : decode cL_refuses 1462 = .ok (.if_icmp .ne 10, 3) := by decide +kernel
theorem dL_refuses_1465 : decode cL_refuses 1465 = .ok (.iload 4, 2) := by decide +kernel
theorem dL_refuses_1467 : decode cL_refuses 1467 = .ok (.iconst 1, 1) := by decide +kernel
theorem dL_refuses_1468 : decode cL_refuses 1468 = .ok (.iadd, 1) := by decide +kernel
theorem dL_refuses_1469 : decode cL_refuses 1469 = .ok (.goto 5, 3) := by decide +kernel
theorem dL_refuses_1472 : decode cL_refuses 1472 = .ok (.iload 9, 2) := by decide +kernel
theorem dL_refuses_1474 : decode cL_refuses 1474 = .ok (.iconst 0, 1) := by decide +kernel
theorem dL_refuses_1475 : decode cL_refuses 1475 = .ok (.iconst (-1), 1) := by decide +kernel
theorem dL_refuses_1476 : decode cL_refuses 1476 = .ok (.invokestatic 121, 3) := by decide +kernel
theorem dL_refuses_1479 : decode cL_refuses 1479 = .ok (.ldc2_w 104, 3) := by decide +kernel
theorem dL_refuses_1482 : decode cL_refuses 1482 = .ok (.lcmp, 1) := by decide +kernel
theorem dL_refuses_1483 : decode cL_refuses 1483 = .ok (.ifCond .ne 203, 3) := by decide +kernel
theorem dL_refuses_1486 : decode cL_refuses 1486 = .ok (.aload_n 0, 1) := by decide +kernel
theorem dL_refuses_1487 : decode cL_refuses 1487 = .ok (.bipush 14, 2) := by decide +kernel
theorem dL_refuses_1489 : decode cL_refuses 1489 = .ok (.iconst 0, 1) := by decide +kernel
theorem dL_refuses_1490 : decode cL_refuses 1490 = .ok (.iconst 0, 1) := by decide +kernel
theorem dL_refuses_1491 : decode cL_refuses 1491 = .ok (.iload 8, 2) := by decide +kernel
theorem dL_refuses_1493 : decode cL_refuses 1493 = .ok (.iconst 1, 1) := by decide +kernel
theorem dL_refuses_1494 : decode cL_refuses 1494 = .ok (.if_icmp .ne 9, 3) := by decide +kernel
theorem dL_refuses_1497 : decode cL_refuses 1497 = .ok (.sipush 1601, 3) := by decide +kernel
theorem dL_refuses_1500 : decode cL_refuses 1500 = .ok (.goto 5, 3) := by decide +kernel
theorem dL_refuses_1503 : decode cL_refuses 1503 = .ok (.iload 9, 2) := by decide +kernel
theorem dL_refuses_1505 : decode cL_refuses 1505 = .ok (.iconst (-1), 1) := by decide +kernel
theorem dL_refuses_1506 : decode cL_refuses 1506 = .ok (.invokestatic 121, 3) := by decide +kernel
theorem dL_refuses_1509 : decode cL_refuses 1509 = .ok (.ldc2_w 104, 3) := by decide +kernel
theorem dL_refuses_1512 : decode cL_refuses 1512 = .ok (.lcmp, 1) := by decide +kernel
theorem dL_refuses_1513 : decode cL_refuses 1513 = .ok (.ifCond .ne 173, 3) := by decide +kernel
theorem dL_refuses_1516 : decode cL_refuses 1516 = .ok (.aload_n 0, 1) := by decide +kernel
theorem dL_refuses_1517 : decode cL_refuses 1517 = .ok (.bipush 14, 2) := by decide +kernel
theorem dL_refuses_1519 : decode cL_refuses 1519 = .ok (.iconst 0, 1) := by decide +kernel
theorem dL_refuses_1520 : decode cL_refuses 1520 = .ok (.iconst 0, 1) := by decide +kernel
theorem dL_refuses_1521 : decode cL_refuses 1521 = .ok (.iconst 0, 1) := by decide +kernel
theorem dL_refuses_1522 : decode cL_refuses 1522 = .ok (.iload 8, 2) := by decide +kernel
theorem dL_refuses_1524 : decode cL_refuses 1524 = .ok (.ifCond .ne 7, 3) := by decide +kernel
theorem dL_refuses_1527 : decode cL_refuses 1527 = .ok (.iconst 0, 1) := by decide +kernel
theorem dL_refuses_1528 : decode cL_refuses 1528 = .ok (.goto 17, 3) := by decide +kernel
theorem dL_refuses_1531 : decode cL_refuses 1531 = .ok (.iload 8, 2) := by decide +kernel
theorem dL_refuses_1533 : decode cL_refuses 1533 = .ok (.iconst 1, 1) := by decide +kernel
theorem dL_refuses_1534 : decode cL_refuses 1534 = .ok (.if_icmp .ne 9, 3) := by decide +kernel
theorem dL_refuses_1537 : decode cL_refuses 1537 = .ok (.sipush (-1001), 3) := by decide +kernel
theorem dL_refuses_1540 : decode cL_refuses 1540 = .ok (.goto 5, 3) := by decide +kernel
theorem dL_refuses_1543 : decode cL_refuses 1543 = .ok (.iload 9, 2) := by decide +kernel
theorem dL_refuses_1545 : decode cL_refuses 1545 = .ok (.invokestatic 121, 3) := by decide +kernel
theorem dL_refuses_1548 : decode cL_refuses 1548 = .ok (.ldc2_w 104, 3) := by decide +kernel
theorem dL_refuses_1551 : decode cL_refuses 1551 = .ok (.lcmp, 1) := by decide +kernel
theorem dL_refuses_1552 : decode cL_refuses 1552 = .ok (.ifCond .ne 134, 3) := by decide +kernel
theorem dL_refuses_1555 : decode cL_refuses 1555 = .ok (.aload_n 0, 1) := by decide +kernel
theorem dL_refuses_1556 : decode cL_refuses 1556 = .ok (.bipush 15, 2) := by decide +kernel
theorem dL_refuses_1558 : decode cL_refuses 1558 = .ok (.iconst 0, 1) := by decide +kernel
theorem dL_refuses_1559 : decode cL_refuses 1559 = .ok (.iconst 0, 1) := by decide +kernel
theorem dL_refuses_1560 : decode cL_refuses 1560 = .ok (.iload 8, 2) := by decide +kernel
theorem dL_refuses_1562 : decode cL_refuses 1562 = .ok (.iconst 1, 1) := by decide +kernel
theorem dL_refuses_1563 : decode cL_refuses 1563 = .ok (.if_icmp .ne 7, 3) := by decide +kernel
theorem dL_refuses_1566 : decode cL_refuses 1566 = .ok (.iconst 4, 1) := by decide +kernel
theorem dL_refuses_1567 : decode cL_refuses 1567 = .ok (.goto 5, 3) := by decide +kernel
theorem dL_refuses_1570 : decode cL_refuses 1570 = .ok (.iload 9, 2) := by decide +kernel
theorem dL_refuses_1572 : decode cL_refuses 1572 = .ok (.iconst 0, 1) := by decide +kernel
theorem dL_refuses_1573 : decode cL_refuses 1573 = .ok (.invokestatic 121, 3) := by decide +kernel
theorem dL_refuses_1576 : decode cL_refuses 1576 = .ok (.ldc2_w 104, 3) := by decide +kernel
theorem dL_refuses_1579 : decode cL_refuses 1579 = .ok (.lcmp, 1) := by decide +kernel
theorem dL_refuses_1580 : decode cL_refuses 1580 = .ok (.ifCond .ne 106, 3) := by decide +kernel
theorem dL_refuses_1583 : decode cL_refuses 1583 = .ok (.aload_n 0, 1) := by decide +kernel
theorem dL_refuses_1584 : decode cL_refuses 1584 = .ok (.iconst 0, 1) := by decide +kernel
theorem dL_refuses_1585 : decode cL_refuses 1585 = .ok (.iload 8, 2) := by decide +kernel
theorem dL_refuses_1587 : decode cL_refuses 1587 = .ok (.iconst 1, 1) := by decide +kernel
theorem dL_refuses_1588 : decode cL_refuses 1588 = .ok (.if_icmp .ne 10, 3) := by decide +kernel
theorem dL_refuses_1591 : decode cL_refuses 1591 = .ok (.iload 4, 2) := by decide +kernel
theorem dL_refuses_1593 : decode cL_refuses 1593 = .ok (.iconst 1, 1) := by decide +kernel
theorem dL_refuses_1594 : decode cL_refuses 1594 = .ok (.iadd, 1) := by decide +kernel
theorem dL_refuses_1595 : decode cL_refuses 1595 = .ok (.goto 5, 3) := by decide +kernel
theorem dL_refuses_1598 : decode cL_refuses 1598 = .ok (.iload 9, 2) := by decide +kernel
theorem dL_refuses_1600 : decode cL_refuses 1600 = .ok (.iconst 0, 1) := by decide +kernel
theorem dL_refuses_1601 : decode cL_refuses 1601 = .ok (.iconst 1, 1) := by decide +kernel
theorem dL_refuses_1602 : decode cL_refuses 1602 = .ok (.iconst 0, 1) := by decide +kernel
theorem dL_refuses_1603 : decode cL_refuses 1603 = .ok (.invokestatic 125, 3) := by decide +kernel
theorem dL_refuses_1606 : decode cL_refuses 1606 = .ok (.bipush (-72), 2) := by decide +kernel
theorem dL_refuses_1608 : decode cL_refuses 1608 = .ok (.if_icmp .ne 78, 3) := by decide +kernel
theorem dL_refuses_1611 : decode cL_refuses 1611 = .ok (.aload_n 0, 1) := by decide +kernel
theorem dL_refuses_1612 : decode cL_refuses 1612 = .ok (.iconst 0, 1) := by decide +kernel
theorem dL_refuses_1613 : decode cL_refuses 1613 = .ok (.iconst 0, 1) := by decide +kernel
theorem dL_refuses_1614 : decode cL_refuses 1614 = .ok (.iconst 0, 1) := by decide +kernel
theorem dL_refuses_1615 : decode cL_refuses 1615 = .ok (.iload 8, 2) := by decide +kernel
theorem dL_refuses_1617 : decode cL_refuses 1617 = .ok (.ifCond .ne 7, 3) := by decide +kernel
theorem dL_refuses_1620 : decode cL_refuses 1620 = .ok (.iconst 0, 1) := by decide +kernel
theorem dL_refuses_1621 : decode cL_refuses 1621 = .ok (.goto 16, 3) := by decide +kernel
theorem dL_refuses_1624 : decode cL_refuses 1624 = .ok (.iload 8, 2) := by decide +kernel
theorem dL_refuses_1626 : decode cL_refuses 1626 = .ok (.iconst 1, 1) := by decide +kernel
theorem dL_refuses_1627 : decode cL_refuses 1627 = .ok (.if_icmp .ne 8, 3) := by decide +kernel
theorem dL_refuses_1630 : decode cL_refuses 1630 = .ok (.bipush 10, 2) := by decide +kernel
theorem dL_refuses_1632 : decode cL_refuses 1632 = .ok (.goto 5, 3) := by decide +kernel
theorem dL_refuses_1635 : decode cL_refuses 1635 = .ok (.iload 9, 2) := by decide +kernel
theorem dL_refuses_1637 : decode cL_refuses 1637 = .ok (.iconst 0, 1) := by decide +kernel
theorem dL_refuses_1638 : decode cL_refuses 1638 = .ok (.invokestatic 125, 3) := by decide +kernel
theorem dL_refuses_1641 : decode cL_refuses 1641 = .ok (.bipush (-72), 2) := by decide +kernel
theorem dL_refuses_1643 : decode cL_refuses 1643 = .ok (.if_icmp .ne 43, 3) := by decide +kernel
theorem dL_refuses_1646 : decode cL_refuses 1646 = .ok (.aload_n 0, 1) := by decide +kernel
theorem dL_refuses_1647 : decode cL_refuses 1647 = .ok (.iconst 0, 1) := by decide +kernel
theorem dL_refuses_1648 : decode cL_refuses 1648 = .ok (.iconst 0, 1) := by decide +kernel
theorem dL_refuses_1649 : decode cL_refuses 1649 = .ok (.iconst 0, 1) := by decide +kernel
theorem dL_refuses_1650 : decode cL_refuses 1650 = .ok (.iconst 1, 1) := by decide +kernel
theorem dL_refuses_1651 : decode cL_refuses 1651 = .ok (.iload 8, 2) := by decide +kernel
theorem dL_refuses_1653 : decode cL_refuses 1653 = .ok (.ifCond .ne 8, 3) := by decide +kernel
theorem dL_refuses_1656 : decode cL_refuses 1656 = .ok (.bipush (-21), 2) := by decide +kernel
theorem dL_refuses_1658 : decode cL_refuses 1658 = .ok (.goto 16, 3) := by decide +kernel
theorem dL_refuses_1661 : decode cL_refuses 1661 = .ok (.iload 8, 2) := by decide +kernel
theorem dL_refuses_1663 : decode cL_refuses 1663 = .ok (.iconst 1, 1) := by decide +kernel
theorem dL_refuses_1664 : decode cL_refuses 1664 = .ok (.if_icmp .ne 8, 3) := by decide +kernel
theorem dL_refuses_1667 : decode cL_refuses 1667 = .ok (.bipush 21, 2) := by decide +kernel
theorem dL_refuses_1669 : decode cL_refuses 1669 = .ok (.goto 5, 3) := by decide +kernel
theorem dL_refuses_1672 : decode cL_refuses 1672 = .ok (.iload 9, 2) := by decide +kernel
theorem dL_refuses_1674 : decode cL_refuses 1674 = .ok (.invokestatic 125, 3) := by decide +kernel
theorem dL_refuses_1677 : decode cL_refuses 1677 = .ok (.bipush (-72), 2) := by decide +kernel
theorem dL_refuses_1679 : decode cL_refuses 1679 = .ok (.if_icmp .ne 7, 3) := by decide +kernel
theorem dL_refuses_1682 : decode cL_refuses 1682 = .ok (.iconst 1, 1) := by decide +kernel
theorem dL_refuses_1683 : decode cL_refuses 1683 = .ok (.goto 4, 3) := by decide +kernel
theorem dL_refuses_1686 : decode cL_refuses 1686 = .ok (.iconst 0, 1) := by decide +kernel
theorem dL_refuses_1687 : decode cL_refuses 1687 = .ok (.istore 13, 2) := by decide +kernel
theorem dL_refuses_1689 : decode cL_refuses 1689 = .ok (.iload 13, 2) := by decide +kernel
theorem dL_refuses_1691 : decode cL_refuses 1691 = .ok (.ifCond .ne 5, 3) := by decide +kernel
theorem dL_refuses_1694 : decode cL_refuses 1694 = .ok (.iconst 0, 1) := by decide +kernel
theorem dL_refuses_1695 : decode cL_refuses 1695 = .ok (.ireturn, 1) := by decide +kernel
theorem dL_refuses_1696 : decode cL_refuses 1696 = .ok (.iinc 8 1, 3) := by decide +kernel
theorem dL_refuses_1699 : decode cL_refuses 1699 = .ok (.goto (-1680), 3) := by decide +kernel
theorem dL_refuses_1702 : decode cL_refuses 1702 = .ok (.aload_n 0, 1) := by decide +kernel
theorem dL_refuses_1703 : decode cL_refuses 1703 = .ok (.invokevirtual 115, 3) := by decide +kernel
theorem dL_refuses_1706 : decode cL_refuses 1706 = .ok (.iload 6, 2) := by decide +kernel
theorem dL_refuses_1708 : decode cL_refuses 1708 = .ok (.if_icmp .ne 16, 3) := by decide +kernel
theorem dL_refuses_1711 : decode cL_refuses 1711 = .ok (.aload_n 0, 1) := by decide +kernel
theorem dL_refuses_1712 : decode cL_refuses 1712 = .ok (.invokevirtual 118, 3) := by decide +kernel
theorem dL_refuses_1715 : decode cL_refuses 1715 = .ok (.iload 7, 2) := by decide +kernel
theorem dL_refuses_1717 : decode cL_refuses 1717 = .ok (.if_icmp .ne 7, 3) := by decide +kernel
theorem dL_refuses_1720 : decode cL_refuses 1720 = .ok (.iconst 1, 1) := by decide +kernel
theorem dL_refuses_1721 : decode cL_refuses 1721 = .ok (.goto 4, 3) := by decide +kernel
theorem dL_refuses_1724 : decode cL_refuses 1724 = .ok (.iconst 0, 1) := by decide +kernel
theorem dL_refuses_1725 : decode cL_refuses 1725 = .ok (.ireturn, 1) := by decide +kernel
def fL_ref94 (m : dM) (p1 : Int32) (p2 : Int32) (p3 : Int32) (p4 : Int32) (w8 : Int32) (w9 : Int32) (w10 : Int32) (w11 : Int32) (w12 : Int32) : Option dM := dlet (if w8 = 0 then 1 else if w8 = 1 then 11 else w9 : Int32) (fun v1 => (fL_act m 0 0 v1 0 0 0).bind (fun q => dP2 q (fun v4 m3 => if (lg_cmp v4 (-72)) = 0 then (fL_act m3 0 1 w10 0 0 0).bind (fun q => dP2 q (fun v7 m6 => if (lg_cmp v7 (-71)) = 0 then dlet (if w8 = 0 then 4 else if w8 = 1 then 41 else w9 : Int32) (fun v8 => (fL_act m6 0 1 0 v8 0 0).bind (fun q => dP2 q (fun v11 m10 => if (lg_cmp v11 (-72)) = 0 then (fL_act m10 0 2 w10 1 0 0).bind (fun q => dP2 q (fun v14 m13 => if (lg_cmp v14 (-71)) = 0 then dlet (if w8 = 1 then 3 else w9 : Int32) (fun v15 => (fL_act m13 0 3 v15 0 0 0).bind (fun q => dP2 q (fun v18 m17 => if (lg_cmp v18 (-71)) = 0 then dlet (if w8 = 0 then (-2) else w10 : Int32) (fun v19 => (fL_act m17 0 3 0 v19 0 0).bind (fun q => dP2 q (fun v22 m21 => if (lg_cmp v22 (-71)) = 0 then some m21 else none))) else none))) else none)) else none))) else none)) else none)))
set_option maxHeartbeats 4000000 in
set_option maxRecDepth 100000 in
theorem kL_ref94 {p : Program} {l : Launch} {e : Env} {s : State} {mth : MethodId} {below : List Frame} {meth : Method} {c : Code} {g : dG} {Q : State → Prop} {H : Heap} {cells slots : Nat} {ls : Array Slot} {m m9 : dM} {p1 : Int32} {p2 : Int32} {p3 : Int32} {p4 : Int32} {w8 : Int32} {w9 : Int32} {w10 : Int32} {w11 : Int32} {w12 : Int32} {w6 : Int32} {w7 : Int32} {locs : List Loc} (hst : l.stackTraces = false) (S : CallFix p mth c cL_refuses 14 s (([.ref (dad g 0), .int p1, .int p2, .int p3, .int p4] : List Value).toArray) wsL_refuses RL) (hE : dEnv g s) (hR : cells + 24 ≤ (headSpec wsL_refuses (dXm 11 216 936)).room.cells ∧ slots + 144 ≤ (headSpec wsL_refuses (dXm 11 216 936)).room.slots) (h : fL_ref94 m p1 p2 p3 p4 w8 w9 w10 w11 w12 = some m9) (hP : va_P g.1 vwCl (dws g m) H) (hS : va_S (dA g) s.heap H locs) (hl : lv_has ls 14 [(0, .ref (dad g 0)), (1, .int p1), (2, .int p2), (3, .int p3), (4, .int p4), (5, .int 2147483647), (6, .int w6), (7, .int w7), (8, .int w8), (9, .int w9), (10, .int w10), (11, .int w11), (12, .int w12)])
    (kk : ∀ (H : Heap) (locs : List Loc) (ls : Array Slot) (cells2 slots2 : Nat), cells2 ≤ cells + 24 → slots2 ≤ slots + 144 → va_P g.1 vwCl (dws g m9) H → va_S (dA g) s.heap H locs → lv_has ls 14 [(0, .ref (dad g 0)), (1, .int p1), (2, .int p2), (3, .int p3), (4, .int p4), (5, .int 2147483647), (6, .int w6), (7, .int w7), (8, .int w8), (9, .int w9), (10, .int w10), (11, .int w11), (12, .int w12)] → W p l e (headSpec wsL_refuses (dXm 11 216 936)).room s mth (([.ref (dad g 0), .int p1, .int p2, .int p3, .int p4] : List Value).toArray) below meth c H locs cells2 slots2 Q (F0 mth 256 ls [])) : W p l e (headSpec wsL_refuses (dXm 11 216 936)).room s mth (([.ref (dad g 0), .int p1, .int p2, .int p3, .int p4] : List Value).toArray) below meth c H locs cells slots Q (F0 mth 94 ls []) := by
  obtain ⟨hR1, hR2⟩ := hR
  unfold fL_ref94 at h
  refine lv_aload_n S.1 S.2.1 dL_refuses_94 rfl (lv_at hl 0 rfl) ?_
  refine lv_iconst (v := 0) S.1 S.2.1 dL_refuses_95 (by decide) ?_
  refine lv_iload S.1 S.2.1 dL_refuses_96 (lv_at hl 8 rfl) ?_
  refine W_tern (E := (if w8 = 0 then 1 else if w8 = 1 then 11 else w9 : Int32)) (J := 118) (rest := [.int 0, .ref (dad g 0)]) (fun v1 ev1 => ?_) (fun JJ => ?_)
  · have h := d_let ev1 h
    refine lv_iconst (v := 0) S.1 S.2.1 dL_refuses_118 (by decide) ?_
    refine lv_iconst (v := 0) S.1 S.2.1 dL_refuses_119 (by decide) ?_
    refine lv_iconst (v := 0) S.1 S.2.1 dL_refuses_120 (by decide) ?_
    obtain ⟨⟨v4, m3⟩, hc2, h⟩ := d_b h
    have h := d_p2 h
    refine doLj (vx_runSX (As := [.ref (dad g 0), .int 0, .int v1, .int 0, .int 0, .int 0]) (rest := []) S (kL_act l g hst hc2) (vx_cwSW 6 S.2.2.2.2 gL_refuses_L_act rfl rfl rfl ynL_act ⟨(Nat.le_of_ble_eq_true rfl), (Nat.le_of_ble_eq_true rfl)⟩) (dpS hE hP hS) rfl rfl hl.1 rfl (lv_room (Nat.le_of_ble_eq_true rfl)) dL_refuses_121 ⟨by omega, by omega⟩) hS (fun H locs hP hS => ?_)
    refine lv_ldc2 (v := (-72)) S.1 S.2.1 S.2.2.2.1 (S.2.2.2.2 (.constantLong RL 104 (-72)) (List.mem_of_getElem? (i := 2) rfl)) dL_refuses_124 ?_
    refine W.lcmp S.1 S.2.1 dL_refuses_127 ?_
    refine lv_if_ne (tgt := 629) S.1 S.2.1 dL_refuses_128 (by decide) (fun cq => ?_) (fun cq => ?_)
    · have h := d_f cq h
      cases h
    · have h := d_t cq h
      refine lv_aload_n S.1 S.2.1 dL_refuses_131 rfl (lv_at hl 0 rfl) ?_
      refine lv_iconst (v := 1) S.1 S.2.1 dL_refuses_132 (by decide) ?_
      refine lv_iload S.1 S.2.1 dL_refuses_133 (lv_at hl 10 rfl) ?_
      refine lv_iconst (v := 0) S.1 S.2.1 dL_refuses_135 (by decide) ?_
      refine lv_iconst (v := 0) S.1 S.2.1 dL_refuses_136 (by decide) ?_
      refine lv_iconst (v := 0) S.1 S.2.1 dL_refuses_137 (by decide) ?_
      obtain ⟨⟨v7, m6⟩, hc5, h⟩ := d_b h
      have h := d_p2 h
      refine doLj (vx_runSX (As := [.ref (dad g 0), .int 1, .int w10, .int 0, .int 0, .int 0]) (rest := []) S (kL_act l g hst hc5) (vx_cwSW 6 S.2.2.2.2 gL_refuses_L_act rfl rfl rfl ynL_act ⟨(Nat.le_of_ble_eq_true rfl), (Nat.le_of_ble_eq_true rfl)⟩) (dpS hE hP hS) rfl rfl hl.1 rfl (lv_room (Nat.le_of_ble_eq_true rfl)) dL_refuses_138 ⟨by omega, by omega⟩) hS (fun H locs hP hS => ?_)
      refine lv_ldc2 (v := (-71)) S.1 S.2.1 S.2.2.2.1 (S.2.2.2.2 (.constantLong RL 100 (-71)) (List.mem_of_getElem? (i := 3) rfl)) dL_refuses_141 ?_
      refine W.lcmp S.1 S.2.1 dL_refuses_144 ?_
      refine lv_if_ne (tgt := 629) S.1 S.2.1 dL_refuses_145 (by decide) (fun cq => ?_) (fun cq => ?_)
      · have h := d_f cq h
        cases h
      · have h := d_t cq h
        refine lv_aload_n S.1 S.2.1 dL_refuses_148 rfl (lv_at hl 0 rfl) ?_
        refine lv_iconst (v := 1) S.1 S.2.1 dL_refuses_149 (by decide) ?_
        refine lv_iconst (v := 0) S.1 S.2.1 dL_refuses_150 (by decide) ?_
        refine lv_iload S.1 S.2.1 dL_refuses_151 (lv_at hl 8 rfl) ?_
        refine W_tern (E := (if w8 = 0 then 4 else if w8 = 1 then 41 else w9 : Int32)) (J := 173) (rest := [.int 0, .int 1, .ref (dad g 0)]) (fun v8 ev8 => ?_) (fun JJ => ?_)
        · have h := d_let ev8 h
          refine lv_iconst (v := 0) S.1 S.2.1 dL_refuses_173 (by decide) ?_
          refine lv_iconst (v := 0) S.1 S.2.1 dL_refuses_174 (by decide) ?_
          obtain ⟨⟨v11, m10⟩, hc9, h⟩ := d_b h
          have h := d_p2 h
          refine doLj (vx_runSX (As := [.ref (dad g 0), .int 1, .int 0, .int v8, .int 0, .int 0]) (rest := []) S (kL_act l g hst hc9) (vx_cwSW 6 S.2.2.2.2 gL_refuses_L_act rfl rfl rfl ynL_act ⟨(Nat.le_of_ble_eq_true rfl), (Nat.le_of_ble_eq_true rfl)⟩) (dpS hE hP hS) rfl rfl hl.1 rfl (lv_room (Nat.le_of_ble_eq_true rfl)) dL_refuses_175 ⟨by omega, by omega⟩) hS (fun H locs hP hS => ?_)
          refine lv_ldc2 (v := (-72)) S.1 S.2.1 S.2.2.2.1 (S.2.2.2.2 (.constantLong RL 104 (-72)) (List.mem_of_getElem? (i := 2) rfl)) dL_refuses_178 ?_
          refine W.lcmp S.1 S.2.1 dL_refuses_181 ?_
          refine lv_if_ne (tgt := 629) S.1 S.2.1 dL_refuses_182 (by decide) (fun cq => ?_) (fun cq => ?_)
          · have h := d_f cq h
            cases h
          · have h := d_t cq h
            refine lv_aload_n S.1 S.2.1 dL_refuses_185 rfl (lv_at hl 0 rfl) ?_
            refine lv_iconst (v := 2) S.1 S.2.1 dL_refuses_186 (by decide) ?_
            refine lv_iload S.1 S.2.1 dL_refuses_187 (lv_at hl 10 rfl) ?_
            refine lv_iconst (v := 1) S.1 S.2.1 dL_refuses_189 (by decide) ?_
            refine lv_iconst (v := 0) S.1 S.2.1 dL_refuses_190 (by decide) ?_
            refine lv_iconst (v := 0) S.1 S.2.1 dL_refuses_191 (by decide) ?_
            obtain ⟨⟨v14, m13⟩, hc12, h⟩ := d_b h
            have h := d_p2 h
            refine doLj (vx_runSX (As := [.ref (dad g 0), .int 2, .int w10, .int 1, .int 0, .int 0]) (rest := []) S (kL_act l g hst hc12) (vx_cwSW 6 S.2.2.2.2 gL_refuses_L_act rfl rfl rfl ynL_act ⟨(Nat.le_of_ble_eq_true rfl), (Nat.le_of_ble_eq_true rfl)⟩) (dpS hE hP hS) rfl rfl hl.1 rfl (lv_room (Nat.le_of_ble_eq_true rfl)) dL_refuses_192 ⟨by omega, by omega⟩) hS (fun H locs hP hS => ?_)
            refine lv_ldc2 (v := (-71)) S.1 S.2.1 S.2.2.2.1 (S.2.2.2.2 (.constantLong RL 100 (-71)) (List.mem_of_getElem? (i := 3) rfl)) dL_refuses_195 ?_
            refine W.lcmp S.1 S.2.1 dL_refuses_198 ?_
            refine lv_if_ne (tgt := 629) S.1 S.2.1 dL_refuses_199 (by decide) (fun cq => ?_) (fun cq => ?_)
            · have h := d_f cq h
              cases h
            · have h := d_t cq h
              refine lv_aload_n S.1 S.2.1 dL_refuses_202 rfl (lv_at hl 0 rfl) ?_
              refine lv_iconst (v := 3) S.1 S.2.1 dL_refuses_203 (by decide) ?_
              refine lv_iload S.1 S.2.1 dL_refuses_204 (lv_at hl 8 rfl) ?_
              refine lv_iconst (v := 1) S.1 S.2.1 dL_refuses_206 (by decide) ?_
              refine W_tern (E := (if w8 = 1 then 3 else w9 : Int32)) (J := 216) (rest := [.int 3, .ref (dad g 0)]) (fun v15 ev15 => ?_) (fun JJ => ?_)
              · have h := d_let ev15 h
                refine lv_iconst (v := 0) S.1 S.2.1 dL_refuses_216 (by decide) ?_
                refine lv_iconst (v := 0) S.1 S.2.1 dL_refuses_217 (by decide) ?_
                refine lv_iconst (v := 0) S.1 S.2.1 dL_refuses_218 (by decide) ?_
                obtain ⟨⟨v18, m17⟩, hc16, h⟩ := d_b h
                have h := d_p2 h
                refine doLj (vx_runSX (As := [.ref (dad g 0), .int 3, .int v15, .int 0, .int 0, .int 0]) (rest := []) S (kL_act l g hst hc16) (vx_cwSW 6 S.2.2.2.2 gL_refuses_L_act rfl rfl rfl ynL_act ⟨(Nat.le_of_ble_eq_true rfl), (Nat.le_of_ble_eq_true rfl)⟩) (dpS hE hP hS) rfl rfl hl.1 rfl (lv_room (Nat.le_of_ble_eq_true rfl)) dL_refuses_219 ⟨by omega, by omega⟩) hS (fun H locs hP hS => ?_)
                refine lv_ldc2 (v := (-71)) S.1 S.2.1 S.2.2.2.1 (S.2.2.2.2 (.constantLong RL 100 (-71)) (List.mem_of_getElem? (i := 3) rfl)) dL_refuses_222 ?_
                refine W.lcmp S.1 S.2.1 dL_refuses_225 ?_
                refine lv_if_ne (tgt := 629) S.1 S.2.1 dL_refuses_226 (by decide) (fun cq => ?_) (fun cq => ?_)
                · have h := d_f cq h
                  cases h
                · have h := d_t cq h
                  refine lv_aload_n S.1 S.2.1 dL_refuses_229 rfl (lv_at hl 0 rfl) ?_
                  refine lv_iconst (v := 3) S.1 S.2.1 dL_refuses_230 (by decide) ?_
                  refine lv_iconst (v := 0) S.1 S.2.1 dL_refuses_231 (by decide) ?_
                  refine lv_iload S.1 S.2.1 dL_refuses_232 (lv_at hl 8 rfl) ?_
                  refine W_tern (E := (if w8 = 0 then (-2) else w10 : Int32)) (J := 244) (rest := [.int 0, .int 3, .ref (dad g 0)]) (fun v19 ev19 => ?_) (fun JJ => ?_)
                  · have h := d_let ev19 h
                    refine lv_iconst (v := 0) S.1 S.2.1 dL_refuses_244 (by decide) ?_
                    refine lv_iconst (v := 0) S.1 S.2.1 dL_refuses_245 (by decide) ?_
                    obtain ⟨⟨v22, m21⟩, hc20, h⟩ := d_b h
                    have h := d_p2 h
                    refine doLj (vx_runSX (As := [.ref (dad g 0), .int 3, .int 0, .int v19, .int 0, .int 0]) (rest := []) S (kL_act l g hst hc20) (vx_cwSW 6 S.2.2.2.2 gL_refuses_L_act rfl rfl rfl ynL_act ⟨(Nat.le_of_ble_eq_true rfl), (Nat.le_of_ble_eq_true rfl)⟩) (dpS hE hP hS) rfl rfl hl.1 rfl (lv_room (Nat.le_of_ble_eq_true rfl)) dL_refuses_246 ⟨by omega, by omega⟩) hS (fun H locs hP hS => ?_)
                    refine lv_ldc2 (v := (-71)) S.1 S.2.1 S.2.2.2.1 (S.2.2.2.2 (.constantLong RL 100 (-71)) (List.mem_of_getElem? (i := 3) rfl)) dL_refuses_249 ?_
                    refine W.lcmp S.1 S.2.1 dL_refuses_252 ?_
                    refine lv_if_ne (tgt := 629) S.1 S.2.1 dL_refuses_253 (by decide) (fun cq => ?_) (fun cq => ?_)
                    · have h := d_f cq h
                      cases h
                    · have h := d_t cq h
                      obtain rfl := Option.some.inj h
                      exact kk H locs ls _ _ (by omega) (by omega) hP hS (lv_sub hl [0, 1, 2, 3, 4, 5, 6, 7, 8, 9, 10, 11, 12] rfl)
                  · refine lv_if_ne (tgt := 242) S.1 S.2.1 dL_refuses_234 (by decide) (fun cq6 => ?_) (fun cq6 => ?_)
                    · refine lv_iload S.1 S.2.1 dL_refuses_242 (lv_at hl 10 rfl) ?_
                      exact JJ _ (by rw [if_neg cq6])
                    · refine lv_bipush (v := (-2)) S.1 S.2.1 dL_refuses_237 (by decide) ?_
                      refine lv_goto (tgt := 244) S.1 S.2.1 dL_refuses_239 (by decide) ?_
                      exact JJ _ (by rw [if_pos cq6])
              · refine lv_icmp_ne (tgt := 214) S.1 S.2.1 dL_refuses_207 (by decide) (fun cq5 => ?_) (fun cq5 => ?_)
                · refine lv_iload S.1 S.2.1 dL_refuses_214 (lv_at hl 9 rfl) ?_
                  exact JJ _ (by rw [if_neg cq5])
                · refine lv_iconst (v := 3) S.1 S.2.1 dL_refuses_210 (by decide) ?_
                  refine lv_goto (tgt := 216) S.1 S.2.1 dL_refuses_211 (by decide) ?_
                  exact JJ _ (by rw [if_pos cq5])
        · refine lv_if_ne (tgt := 160) S.1 S.2.1 dL_refuses_153 (by decide) (fun cq3 => ?_) (fun cq3 => ?_)
          · refine lv_iload S.1 S.2.1 dL_refuses_160 (lv_at hl 8 rfl) ?_
            refine lv_iconst (v := 1) S.1 S.2.1 dL_refuses_162 (by decide) ?_
            refine lv_icmp_ne (tgt := 171) S.1 S.2.1 dL_refuses_163 (by decide) (fun cq4 => ?_) (fun cq4 => ?_)
            · refine lv_iload S.1 S.2.1 dL_refuses_171 (lv_at hl 9 rfl) ?_
              exact JJ _ (by rw [if_neg cq3, if_neg cq4])
            · refine lv_bipush (v := 41) S.1 S.2.1 dL_refuses_166 (by decide) ?_
              refine lv_goto (tgt := 173) S.1 S.2.1 dL_refuses_168 (by decide) ?_
              exact JJ _ (by rw [if_neg cq3, if_pos cq4])
          · refine lv_iconst (v := 4) S.1 S.2.1 dL_refuses_156 (by decide) ?_
            refine lv_goto (tgt := 173) S.1 S.2.1 dL_refuses_157 (by decide) ?_
            exact JJ _ (by rw [if_pos cq3])
  · refine lv_if_ne (tgt := 105) S.1 S.2.1 dL_refuses_98 (by decide) (fun cq1 => ?_) (fun cq1 => ?_)
    · refine lv_iload S.1 S.2.1 dL_refuses_105 (lv_at hl 8 rfl) ?_
      refine lv_iconst (v := 1) S.1 S.2.1 dL_refuses_107 (by decide) ?_
      refine lv_icmp_ne (tgt := 116) S.1 S.2.1 dL_refuses_108 (by decide) (fun cq2 => ?_) (fun cq2 => ?_)
      · refine lv_iload S.1 S.2.1 dL_refuses_116 (lv_at hl 9 rfl) ?_
        exact JJ _ (by rw [if_neg cq1, if_neg cq2])
      · refine lv_bipush (v := 11) S.1 S.2.1 dL_refuses_111 (by decide) ?_
        refine lv_goto (tgt := 118) S.1 S.2.1 dL_refuses_113 (by decide) ?_
        exact JJ _ (by rw [if_neg cq1, if_pos cq2])
    · refine lv_iconst (v := 1) S.1 S.2.1 dL_refuses_101 (by decide) ?_
      refine lv_goto (tgt := 118) S.1 S.2.1 dL_refuses_102 (by decide) ?_
      exact JJ _ (by rw [if_pos cq1])
def fL_ref256 (m : dM) (p1 : Int32) (p2 : Int32) (p3 : Int32) (p4 : Int32) (w8 : Int32) (w9 : Int32) (w10 : Int32) (w11 : Int32) (w12 : Int32) : Option dM := dlet (if w8 = 1 then 1601 else w9 : Int32) (fun v1 => (fL_act m 0 4 v1 0 0 0).bind (fun q => dP2 q (fun v4 m3 => if (lg_cmp v4 (-72)) = 0 then dlet (if w8 = 1 then 841 else w9 : Int32) (fun v5 => (fL_act m3 0 4 0 v5 0 0).bind (fun q => dP2 q (fun v8 m7 => if (lg_cmp v8 (-72)) = 0 then dlet (if w8 = 1 then 1601 else w9 : Int32) (fun v9 => (fL_act m7 0 4 0 0 v9 0).bind (fun q => dP2 q (fun v12 m11 => if (lg_cmp v12 (-72)) = 0 then dlet (if w8 = 1 then 841 else w9 : Int32) (fun v13 => (fL_act m11 0 4 0 0 0 v13).bind (fun q => dP2 q (fun v16 m15 => if (lg_cmp v16 (-72)) = 0 then dlet (if w8 = 1 then 1601 else w9 : Int32) (fun v17 => (fL_act m15 0 5 v17 0 1 1).bind (fun q => dP2 q (fun v20 m19 => if (lg_cmp v20 (-72)) = 0 then some m19 else none))) else none))) else none))) else none))) else none)))
set_option maxHeartbeats 4000000 in
set_option maxRecDepth 100000 in
theorem kL_ref256 {p : Program} {l : Launch} {e : Env} {s : State} {mth : MethodId} {below : List Frame} {meth : Method} {c : Code} {g : dG} {Q : State → Prop} {H : Heap} {cells slots : Nat} {ls : Array Slot} {m m9 : dM} {p1 : Int32} {p2 : Int32} {p3 : Int32} {p4 : Int32} {w8 : Int32} {w9 : Int32} {w10 : Int32} {w11 : Int32} {w12 : Int32} {w6 : Int32} {w7 : Int32} {locs : List Loc} (hst : l.stackTraces = false) (S : CallFix p mth c cL_refuses 14 s (([.ref (dad g 0), .int p1, .int p2, .int p3, .int p4] : List Value).toArray) wsL_refuses RL) (hE : dEnv g s) (hR : cells + 20 ≤ (headSpec wsL_refuses (dXm 11 216 936)).room.cells ∧ slots + 120 ≤ (headSpec wsL_refuses (dXm 11 216 936)).room.slots) (h : fL_ref256 m p1 p2 p3 p4 w8 w9 w10 w11 w12 = some m9) (hP : va_P g.1 vwCl (dws g m) H) (hS : va_S (dA g) s.heap H locs) (hl : lv_has ls 14 [(0, .ref (dad g 0)), (1, .int p1), (2, .int p2), (3, .int p3), (4, .int p4), (5, .int 2147483647), (6, .int w6), (7, .int w7), (8, .int w8), (9, .int w9), (10, .int w10), (11, .int w11), (12, .int w12)])
    (kk : ∀ (H : Heap) (locs : List Loc) (ls : Array Slot) (cells2 slots2 : Nat), cells2 ≤ cells + 20 → slots2 ≤ slots + 120 → va_P g.1 vwCl (dws g m9) H → va_S (dA g) s.heap H locs → lv_has ls 14 [(0, .ref (dad g 0)), (1, .int p1), (2, .int p2), (3, .int p3), (4, .int p4), (5, .int 2147483647), (6, .int w6), (7, .int w7), (8, .int w8), (9, .int w9), (10, .int w10), (11, .int w11), (12, .int w12)] → W p l e (headSpec wsL_refuses (dXm 11 216 936)).room s mth (([.ref (dad g 0), .int p1, .int p2, .int p3, .int p4] : List Value).toArray) below meth c H locs cells2 slots2 Q (F0 mth 401 ls [])) : W p l e (headSpec wsL_refuses (dXm 11 216 936)).room s mth (([.ref (dad g 0), .int p1, .int p2, .int p3, .int p4] : List Value).toArray) below meth c H locs cells slots Q (F0 mth 256 ls []) := by
  obtain ⟨hR1, hR2⟩ := hR
  unfold fL_ref256 at h
  refine lv_aload_n S.1 S.2.1 dL_refuses_256 rfl (lv_at hl 0 rfl) ?_
  refine lv_iconst (v := 4) S.1 S.2.1 dL_refuses_257 (by decide) ?_
  refine lv_iload S.1 S.2.1 dL_refuses_258 (lv_at hl 8 rfl) ?_
  refine lv_iconst (v := 1) S.1 S.2.1 dL_refuses_260 (by decide) ?_
  refine W_tern (E := (if w8 = 1 then 1601 else w9 : Int32)) (J := 272) (rest := [.int 4, .ref (dad g 0)]) (fun v1 ev1 => ?_) (fun JJ => ?_)
  · have h := d_let ev1 h
    refine lv_iconst (v := 0) S.1 S.2.1 dL_refuses_272 (by decide) ?_
    refine lv_iconst (v := 0) S.1 S.2.1 dL_refuses_273 (by decide) ?_
    refine lv_iconst (v := 0) S.1 S.2.1 dL_refuses_274 (by decide) ?_
    obtain ⟨⟨v4, m3⟩, hc2, h⟩ := d_b h
    have h := d_p2 h
    refine doLj (vx_runSX (As := [.ref (dad g 0), .int 4, .int v1, .int 0, .int 0, .int 0]) (rest := []) S (kL_act l g hst hc2) (vx_cwSW 6 S.2.2.2.2 gL_refuses_L_act rfl rfl rfl ynL_act ⟨(Nat.le_of_ble_eq_true rfl), (Nat.le_of_ble_eq_true rfl)⟩) (dpS hE hP hS) rfl rfl hl.1 rfl (lv_room (Nat.le_of_ble_eq_true rfl)) dL_refuses_275 ⟨by omega, by omega⟩) hS (fun H locs hP hS => ?_)
    refine lv_ldc2 (v := (-72)) S.1 S.2.1 S.2.2.2.1 (S.2.2.2.2 (.constantLong RL 104 (-72)) (List.mem_of_getElem? (i := 2) rfl)) dL_refuses_278 ?_
    refine W.lcmp S.1 S.2.1 dL_refuses_281 ?_
    refine lv_if_ne (tgt := 629) S.1 S.2.1 dL_refuses_282 (by decide) (fun cq => ?_) (fun cq => ?_)
    · have h := d_f cq h
      cases h
    · have h := d_t cq h
      refine lv_aload_n S.1 S.2.1 dL_refuses_285 rfl (lv_at hl 0 rfl) ?_
      refine lv_iconst (v := 4) S.1 S.2.1 dL_refuses_286 (by decide) ?_
      refine lv_iconst (v := 0) S.1 S.2.1 dL_refuses_287 (by decide) ?_
      refine lv_iload S.1 S.2.1 dL_refuses_288 (lv_at hl 8 rfl) ?_
      refine lv_iconst (v := 1) S.1 S.2.1 dL_refuses_290 (by decide) ?_
      refine W_tern (E := (if w8 = 1 then 841 else w9 : Int32)) (J := 302) (rest := [.int 0, .int 4, .ref (dad g 0)]) (fun v5 ev5 => ?_) (fun JJ => ?_)
      · have h := d_let ev5 h
        refine lv_iconst (v := 0) S.1 S.2.1 dL_refuses_302 (by decide) ?_
        refine lv_iconst (v := 0) S.1 S.2.1 dL_refuses_303 (by decide) ?_
        obtain ⟨⟨v8, m7⟩, hc6, h⟩ := d_b h
        have h := d_p2 h
        refine doLj (vx_runSX (As := [.ref (dad g 0), .int 4, .int 0, .int v5, .int 0, .int 0]) (rest := []) S (kL_act l g hst hc6) (vx_cwSW 6 S.2.2.2.2 gL_refuses_L_act rfl rfl rfl ynL_act ⟨(Nat.le_of_ble_eq_true rfl), (Nat.le_of_ble_eq_true rfl)⟩) (dpS hE hP hS) rfl rfl hl.1 rfl (lv_room (Nat.le_of_ble_eq_true rfl)) dL_refuses_304 ⟨by omega, by omega⟩) hS (fun H locs hP hS => ?_)
        refine lv_ldc2 (v := (-72)) S.1 S.2.1 S.2.2.2.1 (S.2.2.2.2 (.constantLong RL 104 (-72)) (List.mem_of_getElem? (i := 2) rfl)) dL_refuses_307 ?_
        refine W.lcmp S.1 S.2.1 dL_refuses_310 ?_
        refine lv_if_ne (tgt := 629) S.1 S.2.1 dL_refuses_311 (by decide) (fun cq => ?_) (fun cq => ?_)
        · have h := d_f cq h
          cases h
        · have h := d_t cq h
          refine lv_aload_n S.1 S.2.1 dL_refuses_314 rfl (lv_at hl 0 rfl) ?_
          refine lv_iconst (v := 4) S.1 S.2.1 dL_refuses_315 (by decide) ?_
          refine lv_iconst (v := 0) S.1 S.2.1 dL_refuses_316 (by decide) ?_
          refine lv_iconst (v := 0) S.1 S.2.1 dL_refuses_317 (by decide) ?_
          refine lv_iload S.1 S.2.1 dL_refuses_318 (lv_at hl 8 rfl) ?_
          refine lv_iconst (v := 1) S.1 S.2.1 dL_refuses_320 (by decide) ?_
          refine W_tern (E := (if w8 = 1 then 1601 else w9 : Int32)) (J := 332) (rest := [.int 0, .int 0, .int 4, .ref (dad g 0)]) (fun v9 ev9 => ?_) (fun JJ => ?_)
          · have h := d_let ev9 h
            refine lv_iconst (v := 0) S.1 S.2.1 dL_refuses_332 (by decide) ?_
            obtain ⟨⟨v12, m11⟩, hc10, h⟩ := d_b h
            have h := d_p2 h
            refine doLj (vx_runSX (As := [.ref (dad g 0), .int 4, .int 0, .int 0, .int v9, .int 0]) (rest := []) S (kL_act l g hst hc10) (vx_cwSW 6 S.2.2.2.2 gL_refuses_L_act rfl rfl rfl ynL_act ⟨(Nat.le_of_ble_eq_true rfl), (Nat.le_of_ble_eq_true rfl)⟩) (dpS hE hP hS) rfl rfl hl.1 rfl (lv_room (Nat.le_of_ble_eq_true rfl)) dL_refuses_333 ⟨by omega, by omega⟩) hS (fun H locs hP hS => ?_)
            refine lv_ldc2 (v := (-72)) S.1 S.2.1 S.2.2.2.1 (S.2.2.2.2 (.constantLong RL 104 (-72)) (List.mem_of_getElem? (i := 2) rfl)) dL_refuses_336 ?_
            refine W.lcmp S.1 S.2.1 dL_refuses_339 ?_
            refine lv_if_ne (tgt := 629) S.1 S.2.1 dL_refuses_340 (by decide) (fun cq => ?_) (fun cq => ?_)
            · have h := d_f cq h
              cases h
            · have h := d_t cq h
              refine lv_aload_n S.1 S.2.1 dL_refuses_343 rfl (lv_at hl 0 rfl) ?_
              refine lv_iconst (v := 4) S.1 S.2.1 dL_refuses_344 (by decide) ?_
              refine lv_iconst (v := 0) S.1 S.2.1 dL_refuses_345 (by decide) ?_
              refine lv_iconst (v := 0) S.1 S.2.1 dL_refuses_346 (by decide) ?_
              refine lv_iconst (v := 0) S.1 S.2.1 dL_refuses_347 (by decide) ?_
              refine lv_iload S.1 S.2.1 dL_refuses_348 (lv_at hl 8 rfl) ?_
              refine lv_iconst (v := 1) S.1 S.2.1 dL_refuses_350 (by decide) ?_
              refine W_tern (E := (if w8 = 1 then 841 else w9 : Int32)) (J := 362) (rest := [.int 0, .int 0, .int 0, .int 4, .ref (dad g 0)]) (fun v13 ev13 => ?_) (fun JJ => ?_)
              · have h := d_let ev13 h
                obtain ⟨⟨v16, m15⟩, hc14, h⟩ := d_b h
                have h := d_p2 h
                refine doLj (vx_runSX (As := [.ref (dad g 0), .int 4, .int 0, .int 0, .int 0, .int v13]) (rest := []) S (kL_act l g hst hc14) (vx_cwSW 6 S.2.2.2.2 gL_refuses_L_act rfl rfl rfl ynL_act ⟨(Nat.le_of_ble_eq_true rfl), (Nat.le_of_ble_eq_true rfl)⟩) (dpS hE hP hS) rfl rfl hl.1 rfl (lv_room (Nat.le_of_ble_eq_true rfl)) dL_refuses_362 ⟨by omega, by omega⟩) hS (fun H locs hP hS => ?_)
                refine lv_ldc2 (v := (-72)) S.1 S.2.1 S.2.2.2.1 (S.2.2.2.2 (.constantLong RL 104 (-72)) (List.mem_of_getElem? (i := 2) rfl)) dL_refuses_365 ?_
                refine W.lcmp S.1 S.2.1 dL_refuses_368 ?_
                refine lv_if_ne (tgt := 629) S.1 S.2.1 dL_refuses_369 (by decide) (fun cq => ?_) (fun cq => ?_)
                · have h := d_f cq h
                  cases h
                · have h := d_t cq h
                  refine lv_aload_n S.1 S.2.1 dL_refuses_372 rfl (lv_at hl 0 rfl) ?_
                  refine lv_iconst (v := 5) S.1 S.2.1 dL_refuses_373 (by decide) ?_
                  refine lv_iload S.1 S.2.1 dL_refuses_374 (lv_at hl 8 rfl) ?_
                  refine lv_iconst (v := 1) S.1 S.2.1 dL_refuses_376 (by decide) ?_
                  refine W_tern (E := (if w8 = 1 then 1601 else w9 : Int32)) (J := 388) (rest := [.int 5, .ref (dad g 0)]) (fun v17 ev17 => ?_) (fun JJ => ?_)
                  · have h := d_let ev17 h
                    refine lv_iconst (v := 0) S.1 S.2.1 dL_refuses_388 (by decide) ?_
                    refine lv_iconst (v := 1) S.1 S.2.1 dL_refuses_389 (by decide) ?_
                    refine lv_iconst (v := 1) S.1 S.2.1 dL_refuses_390 (by decide) ?_
                    obtain ⟨⟨v20, m19⟩, hc18, h⟩ := d_b h
                    have h := d_p2 h
                    refine doLj (vx_runSX (As := [.ref (dad g 0), .int 5, .int v17, .int 0, .int 1, .int 1]) (rest := []) S (kL_act l g hst hc18) (vx_cwSW 6 S.2.2.2.2 gL_refuses_L_act rfl rfl rfl ynL_act ⟨(Nat.le_of_ble_eq_true rfl), (Nat.le_of_ble_eq_true rfl)⟩) (dpS hE hP hS) rfl rfl hl.1 rfl (lv_room (Nat.le_of_ble_eq_true rfl)) dL_refuses_391 ⟨by omega, by omega⟩) hS (fun H locs hP hS => ?_)
                    refine lv_ldc2 (v := (-72)) S.1 S.2.1 S.2.2.2.1 (S.2.2.2.2 (.constantLong RL 104 (-72)) (List.mem_of_getElem? (i := 2) rfl)) dL_refuses_394 ?_
                    refine W.lcmp S.1 S.2.1 dL_refuses_397 ?_
                    refine lv_if_ne (tgt := 629) S.1 S.2.1 dL_refuses_398 (by decide) (fun cq => ?_) (fun cq => ?_)
                    · have h := d_f cq h
                      cases h
                    · have h := d_t cq h
                      obtain rfl := Option.some.inj h
                      exact kk H locs ls _ _ (by omega) (by omega) hP hS (lv_sub hl [0, 1, 2, 3, 4, 5, 6, 7, 8, 9, 10, 11, 12] rfl)
                  · refine lv_icmp_ne (tgt := 386) S.1 S.2.1 dL_refuses_377 (by decide) (fun cq5 => ?_) (fun cq5 => ?_)
                    · refine lv_iload S.1 S.2.1 dL_refuses_386 (lv_at hl 9 rfl) ?_
                      exact JJ _ (by rw [if_neg cq5])
                    · refine lv_sipush (v := 1601) S.1 S.2.1 dL_refuses_380 (by decide) ?_
                      refine lv_goto (tgt := 388) S.1 S.2.1 dL_refuses_383 (by decide) ?_
                      exact JJ _ (by rw [if_pos cq5])
              · refine lv_icmp_ne (tgt := 360) S.1 S.2.1 dL_refuses_351 (by decide) (fun cq4 => ?_) (fun cq4 => ?_)
                · refine lv_iload S.1 S.2.1 dL_refuses_360 (lv_at hl 9 rfl) ?_
                  exact JJ _ (by rw [if_neg cq4])
                · refine lv_sipush (v := 841) S.1 S.2.1 dL_refuses_354 (by decide) ?_
                  refine lv_goto (tgt := 362) S.1 S.2.1 dL_refuses_357 (by decide) ?_
                  exact JJ _ (by rw [if_pos cq4])
          · refine lv_icmp_ne (tgt := 330) S.1 S.2.1 dL_refuses_321 (by decide) (fun cq3 => ?_) (fun cq3 => ?_)
            · refine lv_iload S.1 S.2.1 dL_refuses_330 (lv_at hl 9 rfl) ?_
              exact JJ _ (by rw [if_neg cq3])
            · refine lv_sipush (v := 1601) S.1 S.2.1 dL_refuses_324 (by decide) ?_
              refine lv_goto (tgt := 332) S.1 S.2.1 dL_refuses_327 (by decide) ?_
              exact JJ _ (by rw [if_pos cq3])
      · refine lv_icmp_ne (tgt := 300) S.1 S.2.1 dL_refuses_291 (by decide) (fun cq2 => ?_) (fun cq2 => ?_)
        · refine lv_iload S.1 S.2.1 dL_refuses_300 (lv_at hl 9 rfl) ?_
          exact JJ _ (by rw [if_neg cq2])
        · refine lv_sipush (v := 841) S.1 S.2.1 dL_refuses_294 (by decide) ?_
          refine lv_goto (tgt := 302) S.1 S.2.1 dL_refuses_297 (by decide) ?_
          exact JJ _ (by rw [if_pos cq2])
  · refine lv_icmp_ne (tgt := 270) S.1 S.2.1 dL_refuses_261 (by decide) (fun cq1 => ?_) (fun cq1 => ?_)
    · refine lv_iload S.1 S.2.1 dL_refuses_270 (lv_at hl 9 rfl) ?_
      exact JJ _ (by rw [if_neg cq1])
    · refine lv_sipush (v := 1601) S.1 S.2.1 dL_refuses_264 (by decide) ?_
      refine lv_goto (tgt := 272) S.1 S.2.1 dL_refuses_267 (by decide) ?_
      exact JJ _ (by rw [if_pos cq1])
def fL_ref401 (m : dM) (p1 : Int32) (p2 : Int32) (p3 : Int32) (p4 : Int32) (w8 : Int32) (w9 : Int32) (w10 : Int32) (w11 : Int32) (w12 : Int32) : Option dM := dlet (if w8 = 1 then 841 else w9 : Int32) (fun v1 => (fL_act m 0 5 0 v1 1 1).bind (fun q => dP2 q (fun v4 m3 => if (lg_cmp v4 (-72)) = 0 then dlet (if w8 = 0 then 0 else if w8 = 1 then 11 else w9 : Int32) (fun v5 => (fL_act m3 0 5 0 0 v5 1).bind (fun q => dP2 q (fun v8 m7 => if (lg_cmp v8 (-72)) = 0 then dlet (if w8 = 0 then 0 else if w8 = 1 then 401 else w9 : Int32) (fun v9 => (fL_act m7 0 5 0 0 1 v9).bind (fun q => dP2 q (fun v12 m11 => if (lg_cmp v12 (-72)) = 0 then dlet (if w8 = 1 then 1601 else w9 : Int32) (fun v13 => (fL_act m11 0 6 v13 0 1 0).bind (fun q => dP2 q (fun v16 m15 => if (lg_cmp v16 (-72)) = 0 then some m15 else none))) else none))) else none))) else none)))
set_option maxHeartbeats 4000000 in
set_option maxRecDepth 100000 in
theorem kL_ref401 {p : Program} {l : Launch} {e : Env} {s : State} {mth : MethodId} {below : List Frame} {meth : Method} {c : Code} {g : dG} {Q : State → Prop} {H : Heap} {cells slots : Nat} {ls : Array Slot} {m m9 : dM} {p1 : Int32} {p2 : Int32} {p3 : Int32} {p4 : Int32} {w8 : Int32} {w9 : Int32} {w10 : Int32} {w11 : Int32} {w12 : Int32} {w6 : Int32} {w7 : Int32} {locs : List Loc} (hst : l.stackTraces = false) (S : CallFix p mth c cL_refuses 14 s (([.ref (dad g 0), .int p1, .int p2, .int p3, .int p4] : List Value).toArray) wsL_refuses RL) (hE : dEnv g s) (hR : cells + 16 ≤ (headSpec wsL_refuses (dXm 11 216 936)).room.cells ∧ slots + 96 ≤ (headSpec wsL_refuses (dXm 11 216 936)).room.slots) (h : fL_ref401 m p1 p2 p3 p4 w8 w9 w10 w11 w12 = some m9) (hP : va_P g.1 vwCl (dws g m) H) (hS : va_S (dA g) s.heap H locs) (hl : lv_has ls 14 [(0, .ref (dad g 0)), (1, .int p1), (2, .int p2), (3, .int p3), (4, .int p4), (5, .int 2147483647), (6, .int w6), (7, .int w7), (8, .int w8), (9, .int w9), (10, .int w10), (11, .int w11), (12, .int w12)])
    (kk : ∀ (H : Heap) (locs : List Loc) (ls : Array Slot) (cells2 slots2 : Nat), cells2 ≤ cells + 16 → slots2 ≤ slots + 96 → va_P g.1 vwCl (dws g m9) H → va_S (dA g) s.heap H locs → lv_has ls 14 [(0, .ref (dad g 0)), (1, .int p1), (2, .int p2), (3, .int p3), (4, .int p4), (5, .int 2147483647), (6, .int w6), (7, .int w7), (8, .int w8), (9, .int w9), (10, .int w10), (11, .int w11), (12, .int w12)] → W p l e (headSpec wsL_refuses (dXm 11 216 936)).room s mth (([.ref (dad g 0), .int p1, .int p2, .int p3, .int p4] : List Value).toArray) below meth c H locs cells2 slots2 Q (F0 mth 535 ls [])) : W p l e (headSpec wsL_refuses (dXm 11 216 936)).room s mth (([.ref (dad g 0), .int p1, .int p2, .int p3, .int p4] : List Value).toArray) below meth c H locs cells slots Q (F0 mth 401 ls []) := by
  obtain ⟨hR1, hR2⟩ := hR
  unfold fL_ref401 at h
  refine lv_aload_n S.1 S.2.1 dL_refuses_401 rfl (lv_at hl 0 rfl) ?_
  refine lv_iconst (v := 5) S.1 S.2.1 dL_refuses_402 (by decide) ?_
  refine lv_iconst (v := 0) S.1 S.2.1 dL_refuses_403 (by decide) ?_
  refine lv_iload S.1 S.2.1 dL_refuses_404 (lv_at hl 8 rfl) ?_
  refine lv_iconst (v := 1) S.1 S.2.1 dL_refuses_406 (by decide) ?_
  refine W_tern (E := (if w8 = 1 then 841 else w9 : Int32)) (J := 418) (rest := [.int 0, .int 5, .ref (dad g 0)]) (fun v1 ev1 => ?_) (fun JJ => ?_)
  · have h := d_let ev1 h
    refine lv_iconst (v := 1) S.1 S.2.1 dL_refuses_418 (by decide) ?_
    refine lv_iconst (v := 1) S.1 S.2.1 dL_refuses_419 (by decide) ?_
    obtain ⟨⟨v4, m3⟩, hc2, h⟩ := d_b h
    have h := d_p2 h
    refine doLj (vx_runSX (As := [.ref (dad g 0), .int 5, .int 0, .int v1, .int 1, .int 1]) (rest := []) S (kL_act l g hst hc2) (vx_cwSW 6 S.2.2.2.2 gL_refuses_L_act rfl rfl rfl ynL_act ⟨(Nat.le_of_ble_eq_true rfl), (Nat.le_of_ble_eq_true rfl)⟩) (dpS hE hP hS) rfl rfl hl.1 rfl (lv_room (Nat.le_of_ble_eq_true rfl)) dL_refuses_420 ⟨by omega, by omega⟩) hS (fun H locs hP hS => ?_)
    refine lv_ldc2 (v := (-72)) S.1 S.2.1 S.2.2.2.1 (S.2.2.2.2 (.constantLong RL 104 (-72)) (List.mem_of_getElem? (i := 2) rfl)) dL_refuses_423 ?_
    refine W.lcmp S.1 S.2.1 dL_refuses_426 ?_
    refine lv_if_ne (tgt := 629) S.1 S.2.1 dL_refuses_427 (by decide) (fun cq => ?_) (fun cq => ?_)
    · have h := d_f cq h
      cases h
    · have h := d_t cq h
      refine lv_aload_n S.1 S.2.1 dL_refuses_430 rfl (lv_at hl 0 rfl) ?_
      refine lv_iconst (v := 5) S.1 S.2.1 dL_refuses_431 (by decide) ?_
      refine lv_iconst (v := 0) S.1 S.2.1 dL_refuses_432 (by decide) ?_
      refine lv_iconst (v := 0) S.1 S.2.1 dL_refuses_433 (by decide) ?_
      refine lv_iload S.1 S.2.1 dL_refuses_434 (lv_at hl 8 rfl) ?_
      refine W_tern (E := (if w8 = 0 then 0 else if w8 = 1 then 11 else w9 : Int32)) (J := 456) (rest := [.int 0, .int 0, .int 5, .ref (dad g 0)]) (fun v5 ev5 => ?_) (fun JJ => ?_)
      · have h := d_let ev5 h
        refine lv_iconst (v := 1) S.1 S.2.1 dL_refuses_456 (by decide) ?_
        obtain ⟨⟨v8, m7⟩, hc6, h⟩ := d_b h
        have h := d_p2 h
        refine doLj (vx_runSX (As := [.ref (dad g 0), .int 5, .int 0, .int 0, .int v5, .int 1]) (rest := []) S (kL_act l g hst hc6) (vx_cwSW 6 S.2.2.2.2 gL_refuses_L_act rfl rfl rfl ynL_act ⟨(Nat.le_of_ble_eq_true rfl), (Nat.le_of_ble_eq_true rfl)⟩) (dpS hE hP hS) rfl rfl hl.1 rfl (lv_room (Nat.le_of_ble_eq_true rfl)) dL_refuses_457 ⟨by omega, by omega⟩) hS (fun H locs hP hS => ?_)
        refine lv_ldc2 (v := (-72)) S.1 S.2.1 S.2.2.2.1 (S.2.2.2.2 (.constantLong RL 104 (-72)) (List.mem_of_getElem? (i := 2) rfl)) dL_refuses_460 ?_
        refine W.lcmp S.1 S.2.1 dL_refuses_463 ?_
        refine lv_if_ne (tgt := 629) S.1 S.2.1 dL_refuses_464 (by decide) (fun cq => ?_) (fun cq => ?_)
        · have h := d_f cq h
          cases h
        · have h := d_t cq h
          refine lv_aload_n S.1 S.2.1 dL_refuses_467 rfl (lv_at hl 0 rfl) ?_
          refine lv_iconst (v := 5) S.1 S.2.1 dL_refuses_468 (by decide) ?_
          refine lv_iconst (v := 0) S.1 S.2.1 dL_refuses_469 (by decide) ?_
          refine lv_iconst (v := 0) S.1 S.2.1 dL_refuses_470 (by decide) ?_
          refine lv_iconst (v := 1) S.1 S.2.1 dL_refuses_471 (by decide) ?_
          refine lv_iload S.1 S.2.1 dL_refuses_472 (lv_at hl 8 rfl) ?_
          refine W_tern (E := (if w8 = 0 then 0 else if w8 = 1 then 401 else w9 : Int32)) (J := 495) (rest := [.int 1, .int 0, .int 0, .int 5, .ref (dad g 0)]) (fun v9 ev9 => ?_) (fun JJ => ?_)
          · have h := d_let ev9 h
            obtain ⟨⟨v12, m11⟩, hc10, h⟩ := d_b h
            have h := d_p2 h
            refine doLj (vx_runSX (As := [.ref (dad g 0), .int 5, .int 0, .int 0, .int 1, .int v9]) (rest := []) S (kL_act l g hst hc10) (vx_cwSW 6 S.2.2.2.2 gL_refuses_L_act rfl rfl rfl ynL_act ⟨(Nat.le_of_ble_eq_true rfl), (Nat.le_of_ble_eq_true rfl)⟩) (dpS hE hP hS) rfl rfl hl.1 rfl (lv_room (Nat.le_of_ble_eq_true rfl)) dL_refuses_495 ⟨by omega, by omega⟩) hS (fun H locs hP hS => ?_)
            refine lv_ldc2 (v := (-72)) S.1 S.2.1 S.2.2.2.1 (S.2.2.2.2 (.constantLong RL 104 (-72)) (List.mem_of_getElem? (i := 2) rfl)) dL_refuses_498 ?_
            refine W.lcmp S.1 S.2.1 dL_refuses_501 ?_
            refine lv_if_ne (tgt := 629) S.1 S.2.1 dL_refuses_502 (by decide) (fun cq => ?_) (fun cq => ?_)
            · have h := d_f cq h
              cases h
            · have h := d_t cq h
              refine lv_aload_n S.1 S.2.1 dL_refuses_505 rfl (lv_at hl 0 rfl) ?_
              refine lv_bipush (v := 6) S.1 S.2.1 dL_refuses_506 (by decide) ?_
              refine lv_iload S.1 S.2.1 dL_refuses_508 (lv_at hl 8 rfl) ?_
              refine lv_iconst (v := 1) S.1 S.2.1 dL_refuses_510 (by decide) ?_
              refine W_tern (E := (if w8 = 1 then 1601 else w9 : Int32)) (J := 522) (rest := [.int 6, .ref (dad g 0)]) (fun v13 ev13 => ?_) (fun JJ => ?_)
              · have h := d_let ev13 h
                refine lv_iconst (v := 0) S.1 S.2.1 dL_refuses_522 (by decide) ?_
                refine lv_iconst (v := 1) S.1 S.2.1 dL_refuses_523 (by decide) ?_
                refine lv_iconst (v := 0) S.1 S.2.1 dL_refuses_524 (by decide) ?_
                obtain ⟨⟨v16, m15⟩, hc14, h⟩ := d_b h
                have h := d_p2 h
                refine doLj (vx_runSX (As := [.ref (dad g 0), .int 6, .int v13, .int 0, .int 1, .int 0]) (rest := []) S (kL_act l g hst hc14) (vx_cwSW 6 S.2.2.2.2 gL_refuses_L_act rfl rfl rfl ynL_act ⟨(Nat.le_of_ble_eq_true rfl), (Nat.le_of_ble_eq_true rfl)⟩) (dpS hE hP hS) rfl rfl hl.1 rfl (lv_room (Nat.le_of_ble_eq_true rfl)) dL_refuses_525 ⟨by omega, by omega⟩) hS (fun H locs hP hS => ?_)
                refine lv_ldc2 (v := (-72)) S.1 S.2.1 S.2.2.2.1 (S.2.2.2.2 (.constantLong RL 104 (-72)) (List.mem_of_getElem? (i := 2) rfl)) dL_refuses_528 ?_
                refine W.lcmp S.1 S.2.1 dL_refuses_531 ?_
                refine lv_if_ne (tgt := 629) S.1 S.2.1 dL_refuses_532 (by decide) (fun cq => ?_) (fun cq => ?_)
                · have h := d_f cq h
                  cases h
                · have h := d_t cq h
                  obtain rfl := Option.some.inj h
                  exact kk H locs ls _ _ (by omega) (by omega) hP hS (lv_sub hl [0, 1, 2, 3, 4, 5, 6, 7, 8, 9, 10, 11, 12] rfl)
              · refine lv_icmp_ne (tgt := 520) S.1 S.2.1 dL_refuses_511 (by decide) (fun cq6 => ?_) (fun cq6 => ?_)
                · refine lv_iload S.1 S.2.1 dL_refuses_520 (lv_at hl 9 rfl) ?_
                  exact JJ _ (by rw [if_neg cq6])
                · refine lv_sipush (v := 1601) S.1 S.2.1 dL_refuses_514 (by decide) ?_
                  refine lv_goto (tgt := 522) S.1 S.2.1 dL_refuses_517 (by decide) ?_
                  exact JJ _ (by rw [if_pos cq6])
          · refine lv_if_ne (tgt := 481) S.1 S.2.1 dL_refuses_474 (by decide) (fun cq4 => ?_) (fun cq4 => ?_)
            · refine lv_iload S.1 S.2.1 dL_refuses_481 (lv_at hl 8 rfl) ?_
              refine lv_iconst (v := 1) S.1 S.2.1 dL_refuses_483 (by decide) ?_
              refine lv_icmp_ne (tgt := 493) S.1 S.2.1 dL_refuses_484 (by decide) (fun cq5 => ?_) (fun cq5 => ?_)
              · refine lv_iload S.1 S.2.1 dL_refuses_493 (lv_at hl 9 rfl) ?_
                exact JJ _ (by rw [if_neg cq4, if_neg cq5])
              · refine lv_sipush (v := 401) S.1 S.2.1 dL_refuses_487 (by decide) ?_
                refine lv_goto (tgt := 495) S.1 S.2.1 dL_refuses_490 (by decide) ?_
                exact JJ _ (by rw [if_neg cq4, if_pos cq5])
            · refine lv_iconst (v := 0) S.1 S.2.1 dL_refuses_477 (by decide) ?_
              refine lv_goto (tgt := 495) S.1 S.2.1 dL_refuses_478 (by decide) ?_
              exact JJ _ (by rw [if_pos cq4])
      · refine lv_if_ne (tgt := 443) S.1 S.2.1 dL_refuses_436 (by decide) (fun cq2 => ?_) (fun cq2 => ?_)
        · refine lv_iload S.1 S.2.1 dL_refuses_443 (lv_at hl 8 rfl) ?_
          refine lv_iconst (v := 1) S.1 S.2.1 dL_refuses_445 (by decide) ?_
          refine lv_icmp_ne (tgt := 454) S.1 S.2.1 dL_refuses_446 (by decide) (fun cq3 => ?_) (fun cq3 => ?_)
          · refine lv_iload S.1 S.2.1 dL_refuses_454 (lv_at hl 9 rfl) ?_
            exact JJ _ (by rw [if_neg cq2, if_neg cq3])
          · refine lv_bipush (v := 11) S.1 S.2.1 dL_refuses_449 (by decide) ?_
            refine lv_goto (tgt := 456) S.1 S.2.1 dL_refuses_451 (by decide) ?_
            exact JJ _ (by rw [if_neg cq2, if_pos cq3])
        · refine lv_iconst (v := 0) S.1 S.2.1 dL_refuses_439 (by decide) ?_
          refine lv_goto (tgt := 456) S.1 S.2.1 dL_refuses_440 (by decide) ?_
          exact JJ _ (by rw [if_pos cq2])
  · refine lv_icmp_ne (tgt := 416) S.1 S.2.1 dL_refuses_407 (by decide) (fun cq1 => ?_) (fun cq1 => ?_)
    · refine lv_iload S.1 S.2.1 dL_refuses_416 (lv_at hl 9 rfl) ?_
      exact JJ _ (by rw [if_neg cq1])
    · refine lv_sipush (v := 841) S.1 S.2.1 dL_refuses_410 (by decide) ?_
      refine lv_goto (tgt := 418) S.1 S.2.1 dL_refuses_413 (by decide) ?_
      exact JJ _ (by rw [if_pos cq1])
def fL_ref535 (m : dM) (p1 : Int32) (p2 : Int32) (p3 : Int32) (p4 : Int32) (w8 : Int32) (w9 : Int32) (w10 : Int32) (w11 : Int32) (w12 : Int32) : Option dM := dlet (if w8 = 1 then 841 else w9 : Int32) (fun v1 => (fL_act m 0 6 800 v1 1 0).bind (fun q => dP2 q (fun v4 m3 => if (lg_cmp v4 (-72)) = 0 then dlet (if w8 = 0 then 0 else if w8 = 1 then 401 else w9 : Int32) (fun v5 => (fL_act m3 0 6 800 0 v5 0).bind (fun q => dP2 q (fun v8 m7 => if (lg_cmp v8 (-72)) = 0 then (fL_act m7 0 6 0 0 1 0).bind (fun q => dP2 q (fun v11 m10 => if (lg_cmp v11 (-72)) = 0 then some m10 else none)) else none))) else none)))
set_option maxHeartbeats 4000000 in
set_option maxRecDepth 100000 in
theorem kL_ref535 {p : Program} {l : Launch} {e : Env} {s : State} {mth : MethodId} {below : List Frame} {meth : Method} {c : Code} {g : dG} {Q : State → Prop} {H : Heap} {cells slots : Nat} {ls : Array Slot} {m m9 : dM} {p1 : Int32} {p2 : Int32} {p3 : Int32} {p4 : Int32} {w8 : Int32} {w9 : Int32} {w10 : Int32} {w11 : Int32} {w12 : Int32} {w6 : Int32} {w7 : Int32} {locs : List Loc} (hst : l.stackTraces = false) (S : CallFix p mth c cL_refuses 14 s (([.ref (dad g 0), .int p1, .int p2, .int p3, .int p4] : List Value).toArray) wsL_refuses RL) (hE : dEnv g s) (hR : cells + 12 ≤ (headSpec wsL_refuses (dXm 11 216 936)).room.cells ∧ slots + 72 ≤ (headSpec wsL_refuses (dXm 11 216 936)).room.slots) (h : fL_ref535 m p1 p2 p3 p4 w8 w9 w10 w11 w12 = some m9) (hP : va_P g.1 vwCl (dws g m) H) (hS : va_S (dA g) s.heap H locs) (hl : lv_has ls 14 [(0, .ref (dad g 0)), (1, .int p1), (2, .int p2), (3, .int p3), (4, .int p4), (5, .int 2147483647), (6, .int w6), (7, .int w7), (8, .int w8), (9, .int w9), (10, .int w10), (11, .int w11), (12, .int w12)])
    (kk : ∀ (H : Heap) (locs : List Loc) (ls : Array Slot) (cells2 slots2 : Nat), cells2 ≤ cells + 12 → slots2 ≤ slots + 72 → va_P g.1 vwCl (dws g m9) H → va_S (dA g) s.heap H locs → lv_has ls 14 [(0, .ref (dad g 0)), (1, .int p1), (2, .int p2), (3, .int p3), (4, .int p4), (5, .int 2147483647), (6, .int w6), (7, .int w7), (8, .int w8), (9, .int w9), (10, .int w10), (11, .int w11), (12, .int w12), (13, .int 1)] → W p l e (headSpec wsL_refuses (dXm 11 216 936)).room s mth (([.ref (dad g 0), .int p1, .int p2, .int p3, .int p4] : List Value).toArray) below meth c H locs cells2 slots2 Q (F0 mth 632 ls [])) : W p l e (headSpec wsL_refuses (dXm 11 216 936)).room s mth (([.ref (dad g 0), .int p1, .int p2, .int p3, .int p4] : List Value).toArray) below meth c H locs cells slots Q (F0 mth 535 ls []) := by
  obtain ⟨hR1, hR2⟩ := hR
  unfold fL_ref535 at h
  refine lv_aload_n S.1 S.2.1 dL_refuses_535 rfl (lv_at hl 0 rfl) ?_
  refine lv_bipush (v := 6) S.1 S.2.1 dL_refuses_536 (by decide) ?_
  refine lv_sipush (v := 800) S.1 S.2.1 dL_refuses_538 (by decide) ?_
  refine lv_iload S.1 S.2.1 dL_refuses_541 (lv_at hl 8 rfl) ?_
  refine lv_iconst (v := 1) S.1 S.2.1 dL_refuses_543 (by decide) ?_
  refine W_tern (E := (if w8 = 1 then 841 else w9 : Int32)) (J := 555) (rest := [.int 800, .int 6, .ref (dad g 0)]) (fun v1 ev1 => ?_) (fun JJ => ?_)
  · have h := d_let ev1 h
    refine lv_iconst (v := 1) S.1 S.2.1 dL_refuses_555 (by decide) ?_
    refine lv_iconst (v := 0) S.1 S.2.1 dL_refuses_556 (by decide) ?_
    obtain ⟨⟨v4, m3⟩, hc2, h⟩ := d_b h
    have h := d_p2 h
    refine doLj (vx_runSX (As := [.ref (dad g 0), .int 6, .int 800, .int v1, .int 1, .int 0]) (rest := []) S (kL_act l g hst hc2) (vx_cwSW 6 S.2.2.2.2 gL_refuses_L_act rfl rfl rfl ynL_act ⟨(Nat.le_of_ble_eq_true rfl), (Nat.le_of_ble_eq_true rfl)⟩) (dpS hE hP hS) rfl rfl hl.1 rfl (lv_room (Nat.le_of_ble_eq_true rfl)) dL_refuses_557 ⟨by omega, by omega⟩) hS (fun H locs hP hS => ?_)
    refine lv_ldc2 (v := (-72)) S.1 S.2.1 S.2.2.2.1 (S.2.2.2.2 (.constantLong RL 104 (-72)) (List.mem_of_getElem? (i := 2) rfl)) dL_refuses_560 ?_
    refine W.lcmp S.1 S.2.1 dL_refuses_563 ?_
    refine lv_if_ne (tgt := 629) S.1 S.2.1 dL_refuses_564 (by decide) (fun cq => ?_) (fun cq => ?_)
    · have h := d_f cq h
      cases h
    · have h := d_t cq h
      refine lv_aload_n S.1 S.2.1 dL_refuses_567 rfl (lv_at hl 0 rfl) ?_
      refine lv_bipush (v := 6) S.1 S.2.1 dL_refuses_568 (by decide) ?_
      refine lv_sipush (v := 800) S.1 S.2.1 dL_refuses_570 (by decide) ?_
      refine lv_iconst (v := 0) S.1 S.2.1 dL_refuses_573 (by decide) ?_
      refine lv_iload S.1 S.2.1 dL_refuses_574 (lv_at hl 8 rfl) ?_
      refine W_tern (E := (if w8 = 0 then 0 else if w8 = 1 then 401 else w9 : Int32)) (J := 597) (rest := [.int 0, .int 800, .int 6, .ref (dad g 0)]) (fun v5 ev5 => ?_) (fun JJ => ?_)
      · have h := d_let ev5 h
        refine lv_iconst (v := 0) S.1 S.2.1 dL_refuses_597 (by decide) ?_
        obtain ⟨⟨v8, m7⟩, hc6, h⟩ := d_b h
        have h := d_p2 h
        refine doLj (vx_runSX (As := [.ref (dad g 0), .int 6, .int 800, .int 0, .int v5, .int 0]) (rest := []) S (kL_act l g hst hc6) (vx_cwSW 6 S.2.2.2.2 gL_refuses_L_act rfl rfl rfl ynL_act ⟨(Nat.le_of_ble_eq_true rfl), (Nat.le_of_ble_eq_true rfl)⟩) (dpS hE hP hS) rfl rfl hl.1 rfl (lv_room (Nat.le_of_ble_eq_true rfl)) dL_refuses_598 ⟨by omega, by omega⟩) hS (fun H locs hP hS => ?_)
        refine lv_ldc2 (v := (-72)) S.1 S.2.1 S.2.2.2.1 (S.2.2.2.2 (.constantLong RL 104 (-72)) (List.mem_of_getElem? (i := 2) rfl)) dL_refuses_601 ?_
        refine W.lcmp S.1 S.2.1 dL_refuses_604 ?_
        refine lv_if_ne (tgt := 629) S.1 S.2.1 dL_refuses_605 (by decide) (fun cq => ?_) (fun cq => ?_)
        · have h := d_f cq h
          cases h
        · have h := d_t cq h
          refine lv_aload_n S.1 S.2.1 dL_refuses_608 rfl (lv_at hl 0 rfl) ?_
          refine lv_bipush (v := 6) S.1 S.2.1 dL_refuses_609 (by decide) ?_
          refine lv_iconst (v := 0) S.1 S.2.1 dL_refuses_611 (by decide) ?_
          refine lv_iconst (v := 0) S.1 S.2.1 dL_refuses_612 (by decide) ?_
          refine lv_iconst (v := 1) S.1 S.2.1 dL_refuses_613 (by decide) ?_
          refine lv_iconst (v := 0) S.1 S.2.1 dL_refuses_614 (by decide) ?_
          obtain ⟨⟨v11, m10⟩, hc9, h⟩ := d_b h
          have h := d_p2 h
          refine doLj (vx_runSX (As := [.ref (dad g 0), .int 6, .int 0, .int 0, .int 1, .int 0]) (rest := []) S (kL_act l g hst hc9) (vx_cwSW 6 S.2.2.2.2 gL_refuses_L_act rfl rfl rfl ynL_act ⟨(Nat.le_of_ble_eq_true rfl), (Nat.le_of_ble_eq_true rfl)⟩) (dpS hE hP hS) rfl rfl hl.1 rfl (lv_room (Nat.le_of_ble_eq_true rfl)) dL_refuses_615 ⟨by omega, by omega⟩) hS (fun H locs hP hS => ?_)
          refine lv_ldc2 (v := (-72)) S.1 S.2.1 S.2.2.2.1 (S.2.2.2.2 (.constantLong RL 104 (-72)) (List.mem_of_getElem? (i := 2) rfl)) dL_refuses_618 ?_
          refine W.lcmp S.1 S.2.1 dL_refuses_621 ?_
          refine lv_if_ne (tgt := 629) S.1 S.2.1 dL_refuses_622 (by decide) (fun cq => ?_) (fun cq => ?_)
          · have h := d_f cq h
            cases h
          · have h := d_t cq h
            refine lv_iconst (v := 1) S.1 S.2.1 dL_refuses_625 (by decide) ?_
            refine lv_goto (tgt := 630) S.1 S.2.1 dL_refuses_626 (by decide) ?_
            refine lv_istore (lv' := [(13, .int 1), (0, .ref (dad g 0)), (1, .int p1), (2, .int p2), (3, .int p3), (4, .int p4), (5, .int 2147483647), (6, .int w6), (7, .int w7), (8, .int w8), (9, .int w9), (10, .int w10), (11, .int w11), (12, .int w12)]) S.1 S.2.1 dL_refuses_630 hl (by decide) rfl (fun ls hl => ?_)
            obtain rfl := Option.some.inj h
            exact kk H locs ls _ _ (by omega) (by omega) hP hS (lv_sub hl [1, 2, 3, 4, 5, 6, 7, 8, 9, 10, 11, 12, 13, 0] rfl)
      · refine lv_if_ne (tgt := 583) S.1 S.2.1 dL_refuses_576 (by decide) (fun cq2 => ?_) (fun cq2 => ?_)
        · refine lv_iload S.1 S.2.1 dL_refuses_583 (lv_at hl 8 rfl) ?_
          refine lv_iconst (v := 1) S.1 S.2.1 dL_refuses_585 (by decide) ?_
          refine lv_icmp_ne (tgt := 595) S.1 S.2.1 dL_refuses_586 (by decide) (fun cq3 => ?_) (fun cq3 => ?_)
          · refine lv_iload S.1 S.2.1 dL_refuses_595 (lv_at hl 9 rfl) ?_
            exact JJ _ (by rw [if_neg cq2, if_neg cq3])
          · refine lv_sipush (v := 401) S.1 S.2.1 dL_refuses_589 (by decide) ?_
            refine lv_goto (tgt := 597) S.1 S.2.1 dL_refuses_592 (by decide) ?_
            exact JJ _ (by rw [if_neg cq2, if_pos cq3])
        · refine lv_iconst (v := 0) S.1 S.2.1 dL_refuses_579 (by decide) ?_
          refine lv_goto (tgt := 597) S.1 S.2.1 dL_refuses_580 (by decide) ?_
          exact JJ _ (by rw [if_pos cq2])
  · refine lv_icmp_ne (tgt := 553) S.1 S.2.1 dL_refuses_544 (by decide) (fun cq1 => ?_) (fun cq1 => ?_)
    · refine lv_iload S.1 S.2.1 dL_refuses_553 (lv_at hl 9 rfl) ?_
      exact JJ _ (by rw [if_neg cq1])
    · refine lv_sipush (v := 841) S.1 S.2.1 dL_refuses_547 (by decide) ?_
      refine lv_goto (tgt := 555) S.1 S.2.1 dL_refuses_550 (by decide) ?_
      exact JJ _ (by rw [if_pos cq1])
def fL_ref632 (m : dM) (p1 : Int32) (p2 : Int32) (p3 : Int32) (p4 : Int32) (w8 : Int32) (w9 : Int32) (w10 : Int32) (w11 : Int32) (w12 : Int32) : Option dM := (fL_act m 0 7 w11 0 0 0).bind (fun q => dP2 q (fun v3 m2 => if (lg_cmp v3 (-71)) = 0 then (fL_act m2 0 8 w12 0 1 60).bind (fun q => dP2 q (fun v6 m5 => if (lg_cmp v6 (-71)) = 0 then (fL_act m5 0 8 0 w11 1 60).bind (fun q => dP2 q (fun v9 m8 => if (lg_cmp v9 (-71)) = 0 then (fL_act m8 0 10 w12 0 0 0).bind (fun q => dP2 q (fun v12 m11 => if (lg_cmp v12 (-71)) = 0 then (fL_act m11 0 10 0 w10 0 0).bind (fun q => dP2 q (fun v15 m14 => if (lg_cmp v15 (-71)) = 0 then (fL_act m14 0 11 w12 0 0 0).bind (fun q => dP2 q (fun v18 m17 => if (lg_cmp v18 (-71)) = 0 then (fL_act m17 0 12 w12 (-1) 0 0).bind (fun q => dP2 q (fun v21 m20 => if (lg_cmp v21 (-71)) = 0 then (fL_act m20 0 12 0 (-1) w10 0).bind (fun q => dP2 q (fun v24 m23 => if (lg_cmp v24 (-71)) = 0 then some m23 else none)) else none)) else none)) else none)) else none)) else none)) else none)) else none))
set_option maxHeartbeats 4000000 in
set_option maxRecDepth 100000 in
theorem kL_ref632 {p : Program} {l : Launch} {e : Env} {s : State} {mth : MethodId} {below : List Frame} {meth : Method} {c : Code} {g : dG} {Q : State → Prop} {H : Heap} {cells slots : Nat} {ls : Array Slot} {m m9 : dM} {p1 : Int32} {p2 : Int32} {p3 : Int32} {p4 : Int32} {w8 : Int32} {w9 : Int32} {w10 : Int32} {w11 : Int32} {w12 : Int32} {w6 : Int32} {w7 : Int32} {locs : List Loc} (hst : l.stackTraces = false) (S : CallFix p mth c cL_refuses 14 s (([.ref (dad g 0), .int p1, .int p2, .int p3, .int p4] : List Value).toArray) wsL_refuses RL) (hE : dEnv g s) (hR : cells + 32 ≤ (headSpec wsL_refuses (dXm 11 216 936)).room.cells ∧ slots + 192 ≤ (headSpec wsL_refuses (dXm 11 216 936)).room.slots) (h : fL_ref632 m p1 p2 p3 p4 w8 w9 w10 w11 w12 = some m9) (hP : va_P g.1 vwCl (dws g m) H) (hS : va_S (dA g) s.heap H locs) (hl : lv_has ls 14 [(0, .ref (dad g 0)), (1, .int p1), (2, .int p2), (3, .int p3), (4, .int p4), (5, .int 2147483647), (6, .int w6), (7, .int w7), (8, .int w8), (9, .int w9), (10, .int w10), (11, .int w11), (12, .int w12), (13, .int 1)])
    (kk : ∀ (H : Heap) (locs : List Loc) (ls : Array Slot) (cells2 slots2 : Nat), cells2 ≤ cells + 32 → slots2 ≤ slots + 192 → va_P g.1 vwCl (dws g m9) H → va_S (dA g) s.heap H locs → lv_has ls 14 [(0, .ref (dad g 0)), (1, .int p1), (2, .int p2), (3, .int p3), (4, .int p4), (5, .int 2147483647), (6, .int w6), (7, .int w7), (8, .int w8), (9, .int w9), (10, .int w10), (11, .int w11), (12, .int w12), (13, .int 1)] → W p l e (headSpec wsL_refuses (dXm 11 216 936)).room s mth (([.ref (dad g 0), .int p1, .int p2, .int p3, .int p4] : List Value).toArray) below meth c H locs cells2 slots2 Q (F0 mth 783 ls [])) : W p l e (headSpec wsL_refuses (dXm 11 216 936)).room s mth (([.ref (dad g 0), .int p1, .int p2, .int p3, .int p4] : List Value).toArray) below meth c H locs cells slots Q (F0 mth 632 ls []) := by
  obtain ⟨hR1, hR2⟩ := hR
  unfold fL_ref632 at h
  refine lv_iload S.1 S.2.1 dL_refuses_632 (lv_at hl 13 rfl) ?_
  refine lv_if_eq (tgt := 1206) S.1 S.2.1 dL_refuses_634 (by decide) (fun cq => ?_) (fun cq => ?_)
  · exact absurd cq (by decide)
  · refine lv_aload_n S.1 S.2.1 dL_refuses_637 rfl (lv_at hl 0 rfl) ?_
    refine lv_bipush (v := 7) S.1 S.2.1 dL_refuses_638 (by decide) ?_
    refine lv_iload S.1 S.2.1 dL_refuses_640 (lv_at hl 11 rfl) ?_
    refine lv_iconst (v := 0) S.1 S.2.1 dL_refuses_642 (by decide) ?_
    refine lv_iconst (v := 0) S.1 S.2.1 dL_refuses_643 (by decide) ?_
    refine lv_iconst (v := 0) S.1 S.2.1 dL_refuses_644 (by decide) ?_
    obtain ⟨⟨v3, m2⟩, hc1, h⟩ := d_b h
    have h := d_p2 h
    refine doLj (vx_runSX (As := [.ref (dad g 0), .int 7, .int w11, .int 0, .int 0, .int 0]) (rest := []) S (kL_act l g hst hc1) (vx_cwSW 6 S.2.2.2.2 gL_refuses_L_act rfl rfl rfl ynL_act ⟨(Nat.le_of_ble_eq_true rfl), (Nat.le_of_ble_eq_true rfl)⟩) (dpS hE hP hS) rfl rfl hl.1 rfl (lv_room (Nat.le_of_ble_eq_true rfl)) dL_refuses_645 ⟨by omega, by omega⟩) hS (fun H locs hP hS => ?_)
    refine lv_ldc2 (v := (-71)) S.1 S.2.1 S.2.2.2.1 (S.2.2.2.2 (.constantLong RL 100 (-71)) (List.mem_of_getElem? (i := 3) rfl)) dL_refuses_648 ?_
    refine W.lcmp S.1 S.2.1 dL_refuses_651 ?_
    refine lv_if_ne (tgt := 1206) S.1 S.2.1 dL_refuses_652 (by decide) (fun cq => ?_) (fun cq => ?_)
    · have h := d_f cq h
      cases h
    · have h := d_t cq h
      refine lv_aload_n S.1 S.2.1 dL_refuses_655 rfl (lv_at hl 0 rfl) ?_
      refine lv_bipush (v := 8) S.1 S.2.1 dL_refuses_656 (by decide) ?_
      refine lv_iload S.1 S.2.1 dL_refuses_658 (lv_at hl 12 rfl) ?_
      refine lv_iconst (v := 0) S.1 S.2.1 dL_refuses_660 (by decide) ?_
      refine lv_iconst (v := 1) S.1 S.2.1 dL_refuses_661 (by decide) ?_
      refine lv_bipush (v := 60) S.1 S.2.1 dL_refuses_662 (by decide) ?_
      obtain ⟨⟨v6, m5⟩, hc4, h⟩ := d_b h
      have h := d_p2 h
      refine doLj (vx_runSX (As := [.ref (dad g 0), .int 8, .int w12, .int 0, .int 1, .int 60]) (rest := []) S (kL_act l g hst hc4) (vx_cwSW 6 S.2.2.2.2 gL_refuses_L_act rfl rfl rfl ynL_act ⟨(Nat.le_of_ble_eq_true rfl), (Nat.le_of_ble_eq_true rfl)⟩) (dpS hE hP hS) rfl rfl hl.1 rfl (lv_room (Nat.le_of_ble_eq_true rfl)) dL_refuses_664 ⟨by omega, by omega⟩) hS (fun H locs hP hS => ?_)
      refine lv_ldc2 (v := (-71)) S.1 S.2.1 S.2.2.2.1 (S.2.2.2.2 (.constantLong RL 100 (-71)) (List.mem_of_getElem? (i := 3) rfl)) dL_refuses_667 ?_
      refine W.lcmp S.1 S.2.1 dL_refuses_670 ?_
      refine lv_if_ne (tgt := 1206) S.1 S.2.1 dL_refuses_671 (by decide) (fun cq => ?_) (fun cq => ?_)
      · have h := d_f cq h
        cases h
      · have h := d_t cq h
        refine lv_aload_n S.1 S.2.1 dL_refuses_674 rfl (lv_at hl 0 rfl) ?_
        refine lv_bipush (v := 8) S.1 S.2.1 dL_refuses_675 (by decide) ?_
        refine lv_iconst (v := 0) S.1 S.2.1 dL_refuses_677 (by decide) ?_
        refine lv_iload S.1 S.2.1 dL_refuses_678 (lv_at hl 11 rfl) ?_
        refine lv_iconst (v := 1) S.1 S.2.1 dL_refuses_680 (by decide) ?_
        refine lv_bipush (v := 60) S.1 S.2.1 dL_refuses_681 (by decide) ?_
        obtain ⟨⟨v9, m8⟩, hc7, h⟩ := d_b h
        have h := d_p2 h
        refine doLj (vx_runSX (As := [.ref (dad g 0), .int 8, .int 0, .int w11, .int 1, .int 60]) (rest := []) S (kL_act l g hst hc7) (vx_cwSW 6 S.2.2.2.2 gL_refuses_L_act rfl rfl rfl ynL_act ⟨(Nat.le_of_ble_eq_true rfl), (Nat.le_of_ble_eq_true rfl)⟩) (dpS hE hP hS) rfl rfl hl.1 rfl (lv_room (Nat.le_of_ble_eq_true rfl)) dL_refuses_683 ⟨by omega, by omega⟩) hS (fun H locs hP hS => ?_)
        refine lv_ldc2 (v := (-71)) S.1 S.2.1 S.2.2.2.1 (S.2.2.2.2 (.constantLong RL 100 (-71)) (List.mem_of_getElem? (i := 3) rfl)) dL_refuses_686 ?_
        refine W.lcmp S.1 S.2.1 dL_refuses_689 ?_
        refine lv_if_ne (tgt := 1206) S.1 S.2.1 dL_refuses_690 (by decide) (fun cq => ?_) (fun cq => ?_)
        · have h := d_f cq h
          cases h
        · have h := d_t cq h
          refine lv_aload_n S.1 S.2.1 dL_refuses_693 rfl (lv_at hl 0 rfl) ?_
          refine lv_bipush (v := 10) S.1 S.2.1 dL_refuses_694 (by decide) ?_
          refine lv_iload S.1 S.2.1 dL_refuses_696 (lv_at hl 12 rfl) ?_
          refine lv_iconst (v := 0) S.1 S.2.1 dL_refuses_698 (by decide) ?_
          refine lv_iconst (v := 0) S.1 S.2.1 dL_refuses_699 (by decide) ?_
          refine lv_iconst (v := 0) S.1 S.2.1 dL_refuses_700 (by decide) ?_
          obtain ⟨⟨v12, m11⟩, hc10, h⟩ := d_b h
          have h := d_p2 h
          refine doLj (vx_runSX (As := [.ref (dad g 0), .int 10, .int w12, .int 0, .int 0, .int 0]) (rest := []) S (kL_act l g hst hc10) (vx_cwSW 6 S.2.2.2.2 gL_refuses_L_act rfl rfl rfl ynL_act ⟨(Nat.le_of_ble_eq_true rfl), (Nat.le_of_ble_eq_true rfl)⟩) (dpS hE hP hS) rfl rfl hl.1 rfl (lv_room (Nat.le_of_ble_eq_true rfl)) dL_refuses_701 ⟨by omega, by omega⟩) hS (fun H locs hP hS => ?_)
          refine lv_ldc2 (v := (-71)) S.1 S.2.1 S.2.2.2.1 (S.2.2.2.2 (.constantLong RL 100 (-71)) (List.mem_of_getElem? (i := 3) rfl)) dL_refuses_704 ?_
          refine W.lcmp S.1 S.2.1 dL_refuses_707 ?_
          refine lv_if_ne (tgt := 1206) S.1 S.2.1 dL_refuses_708 (by decide) (fun cq => ?_) (fun cq => ?_)
          · have h := d_f cq h
            cases h
          · have h := d_t cq h
            refine lv_aload_n S.1 S.2.1 dL_refuses_711 rfl (lv_at hl 0 rfl) ?_
            refine lv_bipush (v := 10) S.1 S.2.1 dL_refuses_712 (by decide) ?_
            refine lv_iconst (v := 0) S.1 S.2.1 dL_refuses_714 (by decide) ?_
            refine lv_iload S.1 S.2.1 dL_refuses_715 (lv_at hl 10 rfl) ?_
            refine lv_iconst (v := 0) S.1 S.2.1 dL_refuses_717 (by decide) ?_
            refine lv_iconst (v := 0) S.1 S.2.1 dL_refuses_718 (by decide) ?_
            obtain ⟨⟨v15, m14⟩, hc13, h⟩ := d_b h
            have h := d_p2 h
            refine doLj (vx_runSX (As := [.ref (dad g 0), .int 10, .int 0, .int w10, .int 0, .int 0]) (rest := []) S (kL_act l g hst hc13) (vx_cwSW 6 S.2.2.2.2 gL_refuses_L_act rfl rfl rfl ynL_act ⟨(Nat.le_of_ble_eq_true rfl), (Nat.le_of_ble_eq_true rfl)⟩) (dpS hE hP hS) rfl rfl hl.1 rfl (lv_room (Nat.le_of_ble_eq_true rfl)) dL_refuses_719 ⟨by omega, by omega⟩) hS (fun H locs hP hS => ?_)
            refine lv_ldc2 (v := (-71)) S.1 S.2.1 S.2.2.2.1 (S.2.2.2.2 (.constantLong RL 100 (-71)) (List.mem_of_getElem? (i := 3) rfl)) dL_refuses_722 ?_
            refine W.lcmp S.1 S.2.1 dL_refuses_725 ?_
            refine lv_if_ne (tgt := 1206) S.1 S.2.1 dL_refuses_726 (by decide) (fun cq => ?_) (fun cq => ?_)
            · have h := d_f cq h
              cases h
            · have h := d_t cq h
              refine lv_aload_n S.1 S.2.1 dL_refuses_729 rfl (lv_at hl 0 rfl) ?_
              refine lv_bipush (v := 11) S.1 S.2.1 dL_refuses_730 (by decide) ?_
              refine lv_iload S.1 S.2.1 dL_refuses_732 (lv_at hl 12 rfl) ?_
              refine lv_iconst (v := 0) S.1 S.2.1 dL_refuses_734 (by decide) ?_
              refine lv_iconst (v := 0) S.1 S.2.1 dL_refuses_735 (by decide) ?_
              refine lv_iconst (v := 0) S.1 S.2.1 dL_refuses_736 (by decide) ?_
              obtain ⟨⟨v18, m17⟩, hc16, h⟩ := d_b h
              have h := d_p2 h
              refine doLj (vx_runSX (As := [.ref (dad g 0), .int 11, .int w12, .int 0, .int 0, .int 0]) (rest := []) S (kL_act l g hst hc16) (vx_cwSW 6 S.2.2.2.2 gL_refuses_L_act rfl rfl rfl ynL_act ⟨(Nat.le_of_ble_eq_true rfl), (Nat.le_of_ble_eq_true rfl)⟩) (dpS hE hP hS) rfl rfl hl.1 rfl (lv_room (Nat.le_of_ble_eq_true rfl)) dL_refuses_737 ⟨by omega, by omega⟩) hS (fun H locs hP hS => ?_)
              refine lv_ldc2 (v := (-71)) S.1 S.2.1 S.2.2.2.1 (S.2.2.2.2 (.constantLong RL 100 (-71)) (List.mem_of_getElem? (i := 3) rfl)) dL_refuses_740 ?_
              refine W.lcmp S.1 S.2.1 dL_refuses_743 ?_
              refine lv_if_ne (tgt := 1206) S.1 S.2.1 dL_refuses_744 (by decide) (fun cq => ?_) (fun cq => ?_)
              · have h := d_f cq h
                cases h
              · have h := d_t cq h
                refine lv_aload_n S.1 S.2.1 dL_refuses_747 rfl (lv_at hl 0 rfl) ?_
                refine lv_bipush (v := 12) S.1 S.2.1 dL_refuses_748 (by decide) ?_
                refine lv_iload S.1 S.2.1 dL_refuses_750 (lv_at hl 12 rfl) ?_
                refine lv_iconst (v := (-1)) S.1 S.2.1 dL_refuses_752 (by decide) ?_
                refine lv_iconst (v := 0) S.1 S.2.1 dL_refuses_753 (by decide) ?_
                refine lv_iconst (v := 0) S.1 S.2.1 dL_refuses_754 (by decide) ?_
                obtain ⟨⟨v21, m20⟩, hc19, h⟩ := d_b h
                have h := d_p2 h
                refine doLj (vx_runSX (As := [.ref (dad g 0), .int 12, .int w12, .int (-1), .int 0, .int 0]) (rest := []) S (kL_act l g hst hc19) (vx_cwSW 6 S.2.2.2.2 gL_refuses_L_act rfl rfl rfl ynL_act ⟨(Nat.le_of_ble_eq_true rfl), (Nat.le_of_ble_eq_true rfl)⟩) (dpS hE hP hS) rfl rfl hl.1 rfl (lv_room (Nat.le_of_ble_eq_true rfl)) dL_refuses_755 ⟨by omega, by omega⟩) hS (fun H locs hP hS => ?_)
                refine lv_ldc2 (v := (-71)) S.1 S.2.1 S.2.2.2.1 (S.2.2.2.2 (.constantLong RL 100 (-71)) (List.mem_of_getElem? (i := 3) rfl)) dL_refuses_758 ?_
                refine W.lcmp S.1 S.2.1 dL_refuses_761 ?_
                refine lv_if_ne (tgt := 1206) S.1 S.2.1 dL_refuses_762 (by decide) (fun cq => ?_) (fun cq => ?_)
                · have h := d_f cq h
                  cases h
                · have h := d_t cq h
                  refine lv_aload_n S.1 S.2.1 dL_refuses_765 rfl (lv_at hl 0 rfl) ?_
                  refine lv_bipush (v := 12) S.1 S.2.1 dL_refuses_766 (by decide) ?_
                  refine lv_iconst (v := 0) S.1 S.2.1 dL_refuses_768 (by decide) ?_
                  refine lv_iconst (v := (-1)) S.1 S.2.1 dL_refuses_769 (by decide) ?_
                  refine lv_iload S.1 S.2.1 dL_refuses_770 (lv_at hl 10 rfl) ?_
                  refine lv_iconst (v := 0) S.1 S.2.1 dL_refuses_772 (by decide) ?_
                  obtain ⟨⟨v24, m23⟩, hc22, h⟩ := d_b h
                  have h := d_p2 h
                  refine doLj (vx_runSX (As := [.ref (dad g 0), .int 12, .int 0, .int (-1), .int w10, .int 0]) (rest := []) S (kL_act l g hst hc22) (vx_cwSW 6 S.2.2.2.2 gL_refuses_L_act rfl rfl rfl ynL_act ⟨(Nat.le_of_ble_eq_true rfl), (Nat.le_of_ble_eq_true rfl)⟩) (dpS hE hP hS) rfl rfl hl.1 rfl (lv_room (Nat.le_of_ble_eq_true rfl)) dL_refuses_773 ⟨by omega, by omega⟩) hS (fun H locs hP hS => ?_)
                  refine lv_ldc2 (v := (-71)) S.1 S.2.1 S.2.2.2.1 (S.2.2.2.2 (.constantLong RL 100 (-71)) (List.mem_of_getElem? (i := 3) rfl)) dL_refuses_776 ?_
                  refine W.lcmp S.1 S.2.1 dL_refuses_779 ?_
                  refine lv_if_ne (tgt := 1206) S.1 S.2.1 dL_refuses_780 (by decide) (fun cq => ?_) (fun cq => ?_)
                  · have h := d_f cq h
                    cases h
                  · have h := d_t cq h
                    obtain rfl := Option.some.inj h
                    exact kk H locs ls _ _ (by omega) (by omega) hP hS (lv_sub hl [0, 1, 2, 3, 4, 5, 6, 7, 8, 9, 10, 11, 12, 13] rfl)
def fL_ref783 (m : dM) (p1 : Int32) (p2 : Int32) (p3 : Int32) (p4 : Int32) (w8 : Int32) (w9 : Int32) (w10 : Int32) (w11 : Int32) (w12 : Int32) : Option dM := (fL_act m 0 13 w12 9 0 0).bind (fun q => dP2 q (fun v3 m2 => if (lg_cmp v3 (-71)) = 0 then (fL_act m2 0 14 w12 0 0 0).bind (fun q => dP2 q (fun v6 m5 => if (lg_cmp v6 (-71)) = 0 then (fL_act m5 0 15 w12 0 9 0).bind (fun q => dP2 q (fun v9 m8 => if (lg_cmp v9 (-71)) = 0 then (fL_act m8 0 15 0 w10 9 0).bind (fun q => dP2 q (fun v12 m11 => if (lg_cmp v12 (-71)) = 0 then dlet (if w8 = 1 then 10000 else w9 : Int32) (fun v13 => (fL_act m11 0 16 v13 10001 0 0).bind (fun q => dP2 q (fun v16 m15 => if (lg_cmp v16 (-72)) = 0 then dlet (if w8 = 0 then 4 else if w8 = 1 then 10000 else w9 : Int32) (fun v17 => (fL_act m15 0 16 5 v17 0 0).bind (fun q => dP2 q (fun v20 m19 => if (lg_cmp v20 (-72)) = 0 then some m19 else none))) else none))) else none)) else none)) else none)) else none))
set_option maxHeartbeats 4000000 in
set_option maxRecDepth 100000 in
theorem kL_ref783 {p : Program} {l : Launch} {e : Env} {s : State} {mth : MethodId} {below : List Frame} {meth : Method} {c : Code} {g : dG} {Q : State → Prop} {H : Heap} {cells slots : Nat} {ls : Array Slot} {m m9 : dM} {p1 : Int32} {p2 : Int32} {p3 : Int32} {p4 : Int32} {w8 : Int32} {w9 : Int32} {w10 : Int32} {w11 : Int32} {w12 : Int32} {w6 : Int32} {w7 : Int32} {locs : List Loc} (hst : l.stackTraces = false) (S : CallFix p mth c cL_refuses 14 s (([.ref (dad g 0), .int p1, .int p2, .int p3, .int p4] : List Value).toArray) wsL_refuses RL) (hE : dEnv g s) (hR : cells + 24 ≤ (headSpec wsL_refuses (dXm 11 216 936)).room.cells ∧ slots + 144 ≤ (headSpec wsL_refuses (dXm 11 216 936)).room.slots) (h : fL_ref783 m p1 p2 p3 p4 w8 w9 w10 w11 w12 = some m9) (hP : va_P g.1 vwCl (dws g m) H) (hS : va_S (dA g) s.heap H locs) (hl : lv_has ls 14 [(0, .ref (dad g 0)), (1, .int p1), (2, .int p2), (3, .int p3), (4, .int p4), (5, .int 2147483647), (6, .int w6), (7, .int w7), (8, .int w8), (9, .int w9), (10, .int w10), (11, .int w11), (12, .int w12), (13, .int 1)])
    (kk : ∀ (H : Heap) (locs : List Loc) (ls : Array Slot) (cells2 slots2 : Nat), cells2 ≤ cells + 24 → slots2 ≤ slots + 144 → va_P g.1 vwCl (dws g m9) H → va_S (dA g) s.heap H locs → lv_has ls 14 [(0, .ref (dad g 0)), (1, .int p1), (2, .int p2), (3, .int p3), (4, .int p4), (5, .int 2147483647), (6, .int w6), (7, .int w7), (8, .int w8), (9, .int w9), (10, .int w10), (11, .int w11), (12, .int w12), (13, .int 1)] → W p l e (headSpec wsL_refuses (dXm 11 216 936)).room s mth (([.ref (dad g 0), .int p1, .int p2, .int p3, .int p4] : List Value).toArray) below meth c H locs cells2 slots2 Q (F0 mth 929 ls [])) : W p l e (headSpec wsL_refuses (dXm 11 216 936)).room s mth (([.ref (dad g 0), .int p1, .int p2, .int p3, .int p4] : List Value).toArray) below meth c H locs cells slots Q (F0 mth 783 ls []) := by
  obtain ⟨hR1, hR2⟩ := hR
  unfold fL_ref783 at h
  refine lv_aload_n S.1 S.2.1 dL_refuses_783 rfl (lv_at hl 0 rfl) ?_
  refine lv_bipush (v := 13) S.1 S.2.1 dL_refuses_784 (by decide) ?_
  refine lv_iload S.1 S.2.1 dL_refuses_786 (lv_at hl 12 rfl) ?_
  refine lv_bipush (v := 9) S.1 S.2.1 dL_refuses_788 (by decide) ?_
  refine lv_iconst (v := 0) S.1 S.2.1 dL_refuses_790 (by decide) ?_
  refine lv_iconst (v := 0) S.1 S.2.1 dL_refuses_791 (by decide) ?_
  obtain ⟨⟨v3, m2⟩, hc1, h⟩ := d_b h
  have h := d_p2 h
  refine doLj (vx_runSX (As := [.ref (dad g 0), .int 13, .int w12, .int 9, .int 0, .int 0]) (rest := []) S (kL_act l g hst hc1) (vx_cwSW 6 S.2.2.2.2 gL_refuses_L_act rfl rfl rfl ynL_act ⟨(Nat.le_of_ble_eq_true rfl), (Nat.le_of_ble_eq_true rfl)⟩) (dpS hE hP hS) rfl rfl hl.1 rfl (lv_room (Nat.le_of_ble_eq_true rfl)) dL_refuses_792 ⟨by omega, by omega⟩) hS (fun H locs hP hS => ?_)
  refine lv_ldc2 (v := (-71)) S.1 S.2.1 S.2.2.2.1 (S.2.2.2.2 (.constantLong RL 100 (-71)) (List.mem_of_getElem? (i := 3) rfl)) dL_refuses_795 ?_
  refine W.lcmp S.1 S.2.1 dL_refuses_798 ?_
  refine lv_if_ne (tgt := 1206) S.1 S.2.1 dL_refuses_799 (by decide) (fun cq => ?_) (fun cq => ?_)
  · have h := d_f cq h
    cases h
  · have h := d_t cq h
    refine lv_aload_n S.1 S.2.1 dL_refuses_802 rfl (lv_at hl 0 rfl) ?_
    refine lv_bipush (v := 14) S.1 S.2.1 dL_refuses_803 (by decide) ?_
    refine lv_iload S.1 S.2.1 dL_refuses_805 (lv_at hl 12 rfl) ?_
    refine lv_iconst (v := 0) S.1 S.2.1 dL_refuses_807 (by decide) ?_
    refine lv_iconst (v := 0) S.1 S.2.1 dL_refuses_808 (by decide) ?_
    refine lv_iconst (v := 0) S.1 S.2.1 dL_refuses_809 (by decide) ?_
    obtain ⟨⟨v6, m5⟩, hc4, h⟩ := d_b h
    have h := d_p2 h
    refine doLj (vx_runSX (As := [.ref (dad g 0), .int 14, .int w12, .int 0, .int 0, .int 0]) (rest := []) S (kL_act l g hst hc4) (vx_cwSW 6 S.2.2.2.2 gL_refuses_L_act rfl rfl rfl ynL_act ⟨(Nat.le_of_ble_eq_true rfl), (Nat.le_of_ble_eq_true rfl)⟩) (dpS hE hP hS) rfl rfl hl.1 rfl (lv_room (Nat.le_of_ble_eq_true rfl)) dL_refuses_810 ⟨by omega, by omega⟩) hS (fun H locs hP hS => ?_)
    refine lv_ldc2 (v := (-71)) S.1 S.2.1 S.2.2.2.1 (S.2.2.2.2 (.constantLong RL 100 (-71)) (List.mem_of_getElem? (i := 3) rfl)) dL_refuses_813 ?_
    refine W.lcmp S.1 S.2.1 dL_refuses_816 ?_
    refine lv_if_ne (tgt := 1206) S.1 S.2.1 dL_refuses_817 (by decide) (fun cq => ?_) (fun cq => ?_)
    · have h := d_f cq h
      cases h
    · have h := d_t cq h
      refine lv_aload_n S.1 S.2.1 dL_refuses_820 rfl (lv_at hl 0 rfl) ?_
      refine lv_bipush (v := 15) S.1 S.2.1 dL_refuses_821 (by decide) ?_
      refine lv_iload S.1 S.2.1 dL_refuses_823 (lv_at hl 12 rfl) ?_
      refine lv_iconst (v := 0) S.1 S.2.1 dL_refuses_825 (by decide) ?_
      refine lv_bipush (v := 9) S.1 S.2.1 dL_refuses_826 (by decide) ?_
      refine lv_iconst (v := 0) S.1 S.2.1 dL_refuses_828 (by decide) ?_
      obtain ⟨⟨v9, m8⟩, hc7, h⟩ := d_b h
      have h := d_p2 h
      refine doLj (vx_runSX (As := [.ref (dad g 0), .int 15, .int w12, .int 0, .int 9, .int 0]) (rest := []) S (kL_act l g hst hc7) (vx_cwSW 6 S.2.2.2.2 gL_refuses_L_act rfl rfl rfl ynL_act ⟨(Nat.le_of_ble_eq_true rfl), (Nat.le_of_ble_eq_true rfl)⟩) (dpS hE hP hS) rfl rfl hl.1 rfl (lv_room (Nat.le_of_ble_eq_true rfl)) dL_refuses_829 ⟨by omega, by omega⟩) hS (fun H locs hP hS => ?_)
      refine lv_ldc2 (v := (-71)) S.1 S.2.1 S.2.2.2.1 (S.2.2.2.2 (.constantLong RL 100 (-71)) (List.mem_of_getElem? (i := 3) rfl)) dL_refuses_832 ?_
      refine W.lcmp S.1 S.2.1 dL_refuses_835 ?_
      refine lv_if_ne (tgt := 1206) S.1 S.2.1 dL_refuses_836 (by decide) (fun cq => ?_) (fun cq => ?_)
      · have h := d_f cq h
        cases h
      · have h := d_t cq h
        refine lv_aload_n S.1 S.2.1 dL_refuses_839 rfl (lv_at hl 0 rfl) ?_
        refine lv_bipush (v := 15) S.1 S.2.1 dL_refuses_840 (by decide) ?_
        refine lv_iconst (v := 0) S.1 S.2.1 dL_refuses_842 (by decide) ?_
        refine lv_iload S.1 S.2.1 dL_refuses_843 (lv_at hl 10 rfl) ?_
        refine lv_bipush (v := 9) S.1 S.2.1 dL_refuses_845 (by decide) ?_
        refine lv_iconst (v := 0) S.1 S.2.1 dL_refuses_847 (by decide) ?_
        obtain ⟨⟨v12, m11⟩, hc10, h⟩ := d_b h
        have h := d_p2 h
        refine doLj (vx_runSX (As := [.ref (dad g 0), .int 15, .int 0, .int w10, .int 9, .int 0]) (rest := []) S (kL_act l g hst hc10) (vx_cwSW 6 S.2.2.2.2 gL_refuses_L_act rfl rfl rfl ynL_act ⟨(Nat.le_of_ble_eq_true rfl), (Nat.le_of_ble_eq_true rfl)⟩) (dpS hE hP hS) rfl rfl hl.1 rfl (lv_room (Nat.le_of_ble_eq_true rfl)) dL_refuses_848 ⟨by omega, by omega⟩) hS (fun H locs hP hS => ?_)
        refine lv_ldc2 (v := (-71)) S.1 S.2.1 S.2.2.2.1 (S.2.2.2.2 (.constantLong RL 100 (-71)) (List.mem_of_getElem? (i := 3) rfl)) dL_refuses_851 ?_
        refine W.lcmp S.1 S.2.1 dL_refuses_854 ?_
        refine lv_if_ne (tgt := 1206) S.1 S.2.1 dL_refuses_855 (by decide) (fun cq => ?_) (fun cq => ?_)
        · have h := d_f cq h
          cases h
        · have h := d_t cq h
          refine lv_aload_n S.1 S.2.1 dL_refuses_858 rfl (lv_at hl 0 rfl) ?_
          refine lv_bipush (v := 16) S.1 S.2.1 dL_refuses_859 (by decide) ?_
          refine lv_iload S.1 S.2.1 dL_refuses_861 (lv_at hl 8 rfl) ?_
          refine lv_iconst (v := 1) S.1 S.2.1 dL_refuses_863 (by decide) ?_
          refine W_tern (E := (if w8 = 1 then 10000 else w9 : Int32)) (J := 875) (rest := [.int 16, .ref (dad g 0)]) (fun v13 ev13 => ?_) (fun JJ => ?_)
          · have h := d_let ev13 h
            refine lv_sipush (v := 10001) S.1 S.2.1 dL_refuses_875 (by decide) ?_
            refine lv_iconst (v := 0) S.1 S.2.1 dL_refuses_878 (by decide) ?_
            refine lv_iconst (v := 0) S.1 S.2.1 dL_refuses_879 (by decide) ?_
            obtain ⟨⟨v16, m15⟩, hc14, h⟩ := d_b h
            have h := d_p2 h
            refine doLj (vx_runSX (As := [.ref (dad g 0), .int 16, .int v13, .int 10001, .int 0, .int 0]) (rest := []) S (kL_act l g hst hc14) (vx_cwSW 6 S.2.2.2.2 gL_refuses_L_act rfl rfl rfl ynL_act ⟨(Nat.le_of_ble_eq_true rfl), (Nat.le_of_ble_eq_true rfl)⟩) (dpS hE hP hS) rfl rfl hl.1 rfl (lv_room (Nat.le_of_ble_eq_true rfl)) dL_refuses_880 ⟨by omega, by omega⟩) hS (fun H locs hP hS => ?_)
            refine lv_ldc2 (v := (-72)) S.1 S.2.1 S.2.2.2.1 (S.2.2.2.2 (.constantLong RL 104 (-72)) (List.mem_of_getElem? (i := 2) rfl)) dL_refuses_883 ?_
            refine W.lcmp S.1 S.2.1 dL_refuses_886 ?_
            refine lv_if_ne (tgt := 1206) S.1 S.2.1 dL_refuses_887 (by decide) (fun cq => ?_) (fun cq => ?_)
            · have h := d_f cq h
              cases h
            · have h := d_t cq h
              refine lv_aload_n S.1 S.2.1 dL_refuses_890 rfl (lv_at hl 0 rfl) ?_
              refine lv_bipush (v := 16) S.1 S.2.1 dL_refuses_891 (by decide) ?_
              refine lv_iconst (v := 5) S.1 S.2.1 dL_refuses_893 (by decide) ?_
              refine lv_iload S.1 S.2.1 dL_refuses_894 (lv_at hl 8 rfl) ?_
              refine W_tern (E := (if w8 = 0 then 4 else if w8 = 1 then 10000 else w9 : Int32)) (J := 917) (rest := [.int 5, .int 16, .ref (dad g 0)]) (fun v17 ev17 => ?_) (fun JJ => ?_)
              · have h := d_let ev17 h
                refine lv_iconst (v := 0) S.1 S.2.1 dL_refuses_917 (by decide) ?_
                refine lv_iconst (v := 0) S.1 S.2.1 dL_refuses_918 (by decide) ?_
                obtain ⟨⟨v20, m19⟩, hc18, h⟩ := d_b h
                have h := d_p2 h
                refine doLj (vx_runSX (As := [.ref (dad g 0), .int 16, .int 5, .int v17, .int 0, .int 0]) (rest := []) S (kL_act l g hst hc18) (vx_cwSW 6 S.2.2.2.2 gL_refuses_L_act rfl rfl rfl ynL_act ⟨(Nat.le_of_ble_eq_true rfl), (Nat.le_of_ble_eq_true rfl)⟩) (dpS hE hP hS) rfl rfl hl.1 rfl (lv_room (Nat.le_of_ble_eq_true rfl)) dL_refuses_919 ⟨by omega, by omega⟩) hS (fun H locs hP hS => ?_)
                refine lv_ldc2 (v := (-72)) S.1 S.2.1 S.2.2.2.1 (S.2.2.2.2 (.constantLong RL 104 (-72)) (List.mem_of_getElem? (i := 2) rfl)) dL_refuses_922 ?_
                refine W.lcmp S.1 S.2.1 dL_refuses_925 ?_
                refine lv_if_ne (tgt := 1206) S.1 S.2.1 dL_refuses_926 (by decide) (fun cq => ?_) (fun cq => ?_)
                · have h := d_f cq h
                  cases h
                · have h := d_t cq h
                  obtain rfl := Option.some.inj h
                  exact kk H locs ls _ _ (by omega) (by omega) hP hS (lv_sub hl [0, 1, 2, 3, 4, 5, 6, 7, 8, 9, 10, 11, 12, 13] rfl)
              · refine lv_if_ne (tgt := 903) S.1 S.2.1 dL_refuses_896 (by decide) (fun cq2 => ?_) (fun cq2 => ?_)
                · refine lv_iload S.1 S.2.1 dL_refuses_903 (lv_at hl 8 rfl) ?_
                  refine lv_iconst (v := 1) S.1 S.2.1 dL_refuses_905 (by decide) ?_
                  refine lv_icmp_ne (tgt := 915) S.1 S.2.1 dL_refuses_906 (by decide) (fun cq3 => ?_) (fun cq3 => ?_)
                  · refine lv_iload S.1 S.2.1 dL_refuses_915 (lv_at hl 9 rfl) ?_
                    exact JJ _ (by rw [if_neg cq2, if_neg cq3])
                  · refine lv_sipush (v := 10000) S.1 S.2.1 dL_refuses_909 (by decide) ?_
                    refine lv_goto (tgt := 917) S.1 S.2.1 dL_refuses_912 (by decide) ?_
                    exact JJ _ (by rw [if_neg cq2, if_pos cq3])
                · refine lv_iconst (v := 4) S.1 S.2.1 dL_refuses_899 (by decide) ?_
                  refine lv_goto (tgt := 917) S.1 S.2.1 dL_refuses_900 (by decide) ?_
                  exact JJ _ (by rw [if_pos cq2])
          · refine lv_icmp_ne (tgt := 873) S.1 S.2.1 dL_refuses_864 (by decide) (fun cq1 => ?_) (fun cq1 => ?_)
            · refine lv_iload S.1 S.2.1 dL_refuses_873 (lv_at hl 9 rfl) ?_
              exact JJ _ (by rw [if_neg cq1])
            · refine lv_sipush (v := 10000) S.1 S.2.1 dL_refuses_867 (by decide) ?_
              refine lv_goto (tgt := 875) S.1 S.2.1 dL_refuses_870 (by decide) ?_
              exact JJ _ (by rw [if_pos cq1])
def fL_ref929 (m : dM) (p1 : Int32) (p2 : Int32) (p3 : Int32) (p4 : Int32) (w8 : Int32) (w9 : Int32) (w10 : Int32) (w11 : Int32) (w12 : Int32) : Option dM := dlet (if w8 = 1 then 6 else w9 : Int32) (fun v1 => (fL_act m 0 17 v1 0 (-1) 0).bind (fun q => dP2 q (fun v4 m3 => if (lg_cmp v4 (-71)) = 0 then dlet (if w8 = 1 then 4 else w9 : Int32) (fun v5 => (fL_act m3 0 17 0 v5 (-1) 0).bind (fun q => dP2 q (fun v8 m7 => if (lg_cmp v8 (-71)) = 0 then dlet (if w8 = 1 then 1001 else w9 : Int32) (fun v9 => (fL_act m7 0 17 0 0 v9 0).bind (fun q => dP2 q (fun v12 m11 => if (lg_cmp v12 (-72)) = 0 then dlet (if w8 = 1 then 6 else w9 : Int32) (fun v13 => (fL_act m11 0 18 v13 (-1) 0 0).bind (fun q => dP2 q (fun v16 m15 => if (lg_cmp v16 (-71)) = 0 then dlet (if w8 = 1 then 1001 else w9 : Int32) (fun v17 => (fL_act m15 0 18 0 v17 0 0).bind (fun q => dP2 q (fun v20 m19 => if (lg_cmp v20 (-72)) = 0 then some m19 else none))) else none))) else none))) else none))) else none)))
set_option maxHeartbeats 4000000 in
set_option maxRecDepth 100000 in
theorem kL_ref929 {p : Program} {l : Launch} {e : Env} {s : State} {mth : MethodId} {below : List Frame} {meth : Method} {c : Code} {g : dG} {Q : State → Prop} {H : Heap} {cells slots : Nat} {ls : Array Slot} {m m9 : dM} {p1 : Int32} {p2 : Int32} {p3 : Int32} {p4 : Int32} {w8 : Int32} {w9 : Int32} {w10 : Int32} {w11 : Int32} {w12 : Int32} {w6 : Int32} {w7 : Int32} {locs : List Loc} (hst : l.stackTraces = false) (S : CallFix p mth c cL_refuses 14 s (([.ref (dad g 0), .int p1, .int p2, .int p3, .int p4] : List Value).toArray) wsL_refuses RL) (hE : dEnv g s) (hR : cells + 20 ≤ (headSpec wsL_refuses (dXm 11 216 936)).room.cells ∧ slots + 120 ≤ (headSpec wsL_refuses (dXm 11 216 936)).room.slots) (h : fL_ref929 m p1 p2 p3 p4 w8 w9 w10 w11 w12 = some m9) (hP : va_P g.1 vwCl (dws g m) H) (hS : va_S (dA g) s.heap H locs) (hl : lv_has ls 14 [(0, .ref (dad g 0)), (1, .int p1), (2, .int p2), (3, .int p3), (4, .int p4), (5, .int 2147483647), (6, .int w6), (7, .int w7), (8, .int w8), (9, .int w9), (10, .int w10), (11, .int w11), (12, .int w12), (13, .int 1)])
    (kk : ∀ (H : Heap) (locs : List Loc) (ls : Array Slot) (cells2 slots2 : Nat), cells2 ≤ cells + 20 → slots2 ≤ slots + 120 → va_P g.1 vwCl (dws g m9) H → va_S (dA g) s.heap H locs → lv_has ls 14 [(0, .ref (dad g 0)), (1, .int p1), (2, .int p2), (3, .int p3), (4, .int p4), (5, .int 2147483647), (6, .int w6), (7, .int w7), (8, .int w8), (9, .int w9), (10, .int w10), (11, .int w11), (12, .int w12), (13, .int 1)] → W p l e (headSpec wsL_refuses (dXm 11 216 936)).room s mth (([.ref (dad g 0), .int p1, .int p2, .int p3, .int p4] : List Value).toArray) below meth c H locs cells2 slots2 Q (F0 mth 1075 ls [])) : W p l e (headSpec wsL_refuses (dXm 11 216 936)).room s mth (([.ref (dad g 0), .int p1, .int p2, .int p3, .int p4] : List Value).toArray) below meth c H locs cells slots Q (F0 mth 929 ls []) := by
  obtain ⟨hR1, hR2⟩ := hR
  unfold fL_ref929 at h
  refine lv_aload_n S.1 S.2.1 dL_refuses_929 rfl (lv_at hl 0 rfl) ?_
  refine lv_bipush (v := 17) S.1 S.2.1 dL_refuses_930 (by decide) ?_
  refine lv_iload S.1 S.2.1 dL_refuses_932 (lv_at hl 8 rfl) ?_
  refine lv_iconst (v := 1) S.1 S.2.1 dL_refuses_934 (by decide) ?_
  refine W_tern (E := (if w8 = 1 then 6 else w9 : Int32)) (J := 945) (rest := [.int 17, .ref (dad g 0)]) (fun v1 ev1 => ?_) (fun JJ => ?_)
  · have h := d_let ev1 h
    refine lv_iconst (v := 0) S.1 S.2.1 dL_refuses_945 (by decide) ?_
    refine lv_iconst (v := (-1)) S.1 S.2.1 dL_refuses_946 (by decide) ?_
    refine lv_iconst (v := 0) S.1 S.2.1 dL_refuses_947 (by decide) ?_
    obtain ⟨⟨v4, m3⟩, hc2, h⟩ := d_b h
    have h := d_p2 h
    refine doLj (vx_runSX (As := [.ref (dad g 0), .int 17, .int v1, .int 0, .int (-1), .int 0]) (rest := []) S (kL_act l g hst hc2) (vx_cwSW 6 S.2.2.2.2 gL_refuses_L_act rfl rfl rfl ynL_act ⟨(Nat.le_of_ble_eq_true rfl), (Nat.le_of_ble_eq_true rfl)⟩) (dpS hE hP hS) rfl rfl hl.1 rfl (lv_room (Nat.le_of_ble_eq_true rfl)) dL_refuses_948 ⟨by omega, by omega⟩) hS (fun H locs hP hS => ?_)
    refine lv_ldc2 (v := (-71)) S.1 S.2.1 S.2.2.2.1 (S.2.2.2.2 (.constantLong RL 100 (-71)) (List.mem_of_getElem? (i := 3) rfl)) dL_refuses_951 ?_
    refine W.lcmp S.1 S.2.1 dL_refuses_954 ?_
    refine lv_if_ne (tgt := 1206) S.1 S.2.1 dL_refuses_955 (by decide) (fun cq => ?_) (fun cq => ?_)
    · have h := d_f cq h
      cases h
    · have h := d_t cq h
      refine lv_aload_n S.1 S.2.1 dL_refuses_958 rfl (lv_at hl 0 rfl) ?_
      refine lv_bipush (v := 17) S.1 S.2.1 dL_refuses_959 (by decide) ?_
      refine lv_iconst (v := 0) S.1 S.2.1 dL_refuses_961 (by decide) ?_
      refine lv_iload S.1 S.2.1 dL_refuses_962 (lv_at hl 8 rfl) ?_
      refine lv_iconst (v := 1) S.1 S.2.1 dL_refuses_964 (by decide) ?_
      refine W_tern (E := (if w8 = 1 then 4 else w9 : Int32)) (J := 974) (rest := [.int 0, .int 17, .ref (dad g 0)]) (fun v5 ev5 => ?_) (fun JJ => ?_)
      · have h := d_let ev5 h
        refine lv_iconst (v := (-1)) S.1 S.2.1 dL_refuses_974 (by decide) ?_
        refine lv_iconst (v := 0) S.1 S.2.1 dL_refuses_975 (by decide) ?_
        obtain ⟨⟨v8, m7⟩, hc6, h⟩ := d_b h
        have h := d_p2 h
        refine doLj (vx_runSX (As := [.ref (dad g 0), .int 17, .int 0, .int v5, .int (-1), .int 0]) (rest := []) S (kL_act l g hst hc6) (vx_cwSW 6 S.2.2.2.2 gL_refuses_L_act rfl rfl rfl ynL_act ⟨(Nat.le_of_ble_eq_true rfl), (Nat.le_of_ble_eq_true rfl)⟩) (dpS hE hP hS) rfl rfl hl.1 rfl (lv_room (Nat.le_of_ble_eq_true rfl)) dL_refuses_976 ⟨by omega, by omega⟩) hS (fun H locs hP hS => ?_)
        refine lv_ldc2 (v := (-71)) S.1 S.2.1 S.2.2.2.1 (S.2.2.2.2 (.constantLong RL 100 (-71)) (List.mem_of_getElem? (i := 3) rfl)) dL_refuses_979 ?_
        refine W.lcmp S.1 S.2.1 dL_refuses_982 ?_
        refine lv_if_ne (tgt := 1206) S.1 S.2.1 dL_refuses_983 (by decide) (fun cq => ?_) (fun cq => ?_)
        · have h := d_f cq h
          cases h
        · have h := d_t cq h
          refine lv_aload_n S.1 S.2.1 dL_refuses_986 rfl (lv_at hl 0 rfl) ?_
          refine lv_bipush (v := 17) S.1 S.2.1 dL_refuses_987 (by decide) ?_
          refine lv_iconst (v := 0) S.1 S.2.1 dL_refuses_989 (by decide) ?_
          refine lv_iconst (v := 0) S.1 S.2.1 dL_refuses_990 (by decide) ?_
          refine lv_iload S.1 S.2.1 dL_refuses_991 (lv_at hl 8 rfl) ?_
          refine lv_iconst (v := 1) S.1 S.2.1 dL_refuses_993 (by decide) ?_
          refine W_tern (E := (if w8 = 1 then 1001 else w9 : Int32)) (J := 1005) (rest := [.int 0, .int 0, .int 17, .ref (dad g 0)]) (fun v9 ev9 => ?_) (fun JJ => ?_)
          · have h := d_let ev9 h
            refine lv_iconst (v := 0) S.1 S.2.1 dL_refuses_1005 (by decide) ?_
            obtain ⟨⟨v12, m11⟩, hc10, h⟩ := d_b h
            have h := d_p2 h
            refine doLj (vx_runSX (As := [.ref (dad g 0), .int 17, .int 0, .int 0, .int v9, .int 0]) (rest := []) S (kL_act l g hst hc10) (vx_cwSW 6 S.2.2.2.2 gL_refuses_L_act rfl rfl rfl ynL_act ⟨(Nat.le_of_ble_eq_true rfl), (Nat.le_of_ble_eq_true rfl)⟩) (dpS hE hP hS) rfl rfl hl.1 rfl (lv_room (Nat.le_of_ble_eq_true rfl)) dL_refuses_1006 ⟨by omega, by omega⟩) hS (fun H locs hP hS => ?_)
            refine lv_ldc2 (v := (-72)) S.1 S.2.1 S.2.2.2.1 (S.2.2.2.2 (.constantLong RL 104 (-72)) (List.mem_of_getElem? (i := 2) rfl)) dL_refuses_1009 ?_
            refine W.lcmp S.1 S.2.1 dL_refuses_1012 ?_
            refine lv_if_ne (tgt := 1206) S.1 S.2.1 dL_refuses_1013 (by decide) (fun cq => ?_) (fun cq => ?_)
            · have h := d_f cq h
              cases h
            · have h := d_t cq h
              refine lv_aload_n S.1 S.2.1 dL_refuses_1016 rfl (lv_at hl 0 rfl) ?_
              refine lv_bipush (v := 18) S.1 S.2.1 dL_refuses_1017 (by decide) ?_
              refine lv_iload S.1 S.2.1 dL_refuses_1019 (lv_at hl 8 rfl) ?_
              refine lv_iconst (v := 1) S.1 S.2.1 dL_refuses_1021 (by decide) ?_
              refine W_tern (E := (if w8 = 1 then 6 else w9 : Int32)) (J := 1032) (rest := [.int 18, .ref (dad g 0)]) (fun v13 ev13 => ?_) (fun JJ => ?_)
              · have h := d_let ev13 h
                refine lv_iconst (v := (-1)) S.1 S.2.1 dL_refuses_1032 (by decide) ?_
                refine lv_iconst (v := 0) S.1 S.2.1 dL_refuses_1033 (by decide) ?_
                refine lv_iconst (v := 0) S.1 S.2.1 dL_refuses_1034 (by decide) ?_
                obtain ⟨⟨v16, m15⟩, hc14, h⟩ := d_b h
                have h := d_p2 h
                refine doLj (vx_runSX (As := [.ref (dad g 0), .int 18, .int v13, .int (-1), .int 0, .int 0]) (rest := []) S (kL_act l g hst hc14) (vx_cwSW 6 S.2.2.2.2 gL_refuses_L_act rfl rfl rfl ynL_act ⟨(Nat.le_of_ble_eq_true rfl), (Nat.le_of_ble_eq_true rfl)⟩) (dpS hE hP hS) rfl rfl hl.1 rfl (lv_room (Nat.le_of_ble_eq_true rfl)) dL_refuses_1035 ⟨by omega, by omega⟩) hS (fun H locs hP hS => ?_)
                refine lv_ldc2 (v := (-71)) S.1 S.2.1 S.2.2.2.1 (S.2.2.2.2 (.constantLong RL 100 (-71)) (List.mem_of_getElem? (i := 3) rfl)) dL_refuses_1038 ?_
                refine W.lcmp S.1 S.2.1 dL_refuses_1041 ?_
                refine lv_if_ne (tgt := 1206) S.1 S.2.1 dL_refuses_1042 (by decide) (fun cq => ?_) (fun cq => ?_)
                · have h := d_f cq h
                  cases h
                · have h := d_t cq h
                  refine lv_aload_n S.1 S.2.1 dL_refuses_1045 rfl (lv_at hl 0 rfl) ?_
                  refine lv_bipush (v := 18) S.1 S.2.1 dL_refuses_1046 (by decide) ?_
                  refine lv_iconst (v := 0) S.1 S.2.1 dL_refuses_1048 (by decide) ?_
                  refine lv_iload S.1 S.2.1 dL_refuses_1049 (lv_at hl 8 rfl) ?_
                  refine lv_iconst (v := 1) S.1 S.2.1 dL_refuses_1051 (by decide) ?_
                  refine W_tern (E := (if w8 = 1 then 1001 else w9 : Int32)) (J := 1063) (rest := [.int 0, .int 18, .ref (dad g 0)]) (fun v17 ev17 => ?_) (fun JJ => ?_)
                  · have h := d_let ev17 h
                    refine lv_iconst (v := 0) S.1 S.2.1 dL_refuses_1063 (by decide) ?_
                    refine lv_iconst (v := 0) S.1 S.2.1 dL_refuses_1064 (by decide) ?_
                    obtain ⟨⟨v20, m19⟩, hc18, h⟩ := d_b h
                    have h := d_p2 h
                    refine doLj (vx_runSX (As := [.ref (dad g 0), .int 18, .int 0, .int v17, .int 0, .int 0]) (rest := []) S (kL_act l g hst hc18) (vx_cwSW 6 S.2.2.2.2 gL_refuses_L_act rfl rfl rfl ynL_act ⟨(Nat.le_of_ble_eq_true rfl), (Nat.le_of_ble_eq_true rfl)⟩) (dpS hE hP hS) rfl rfl hl.1 rfl (lv_room (Nat.le_of_ble_eq_true rfl)) dL_refuses_1065 ⟨by omega, by omega⟩) hS (fun H locs hP hS => ?_)
                    refine lv_ldc2 (v := (-72)) S.1 S.2.1 S.2.2.2.1 (S.2.2.2.2 (.constantLong RL 104 (-72)) (List.mem_of_getElem? (i := 2) rfl)) dL_refuses_1068 ?_
                    refine W.lcmp S.1 S.2.1 dL_refuses_1071 ?_
                    refine lv_if_ne (tgt := 1206) S.1 S.2.1 dL_refuses_1072 (by decide) (fun cq => ?_) (fun cq => ?_)
                    · have h := d_f cq h
                      cases h
                    · have h := d_t cq h
                      obtain rfl := Option.some.inj h
                      exact kk H locs ls _ _ (by omega) (by omega) hP hS (lv_sub hl [0, 1, 2, 3, 4, 5, 6, 7, 8, 9, 10, 11, 12, 13] rfl)
                  · refine lv_icmp_ne (tgt := 1061) S.1 S.2.1 dL_refuses_1052 (by decide) (fun cq5 => ?_) (fun cq5 => ?_)
                    · refine lv_iload S.1 S.2.1 dL_refuses_1061 (lv_at hl 9 rfl) ?_
                      exact JJ _ (by rw [if_neg cq5])
                    · refine lv_sipush (v := 1001) S.1 S.2.1 dL_refuses_1055 (by decide) ?_
                      refine lv_goto (tgt := 1063) S.1 S.2.1 dL_refuses_1058 (by decide) ?_
                      exact JJ _ (by rw [if_pos cq5])
              · refine lv_icmp_ne (tgt := 1030) S.1 S.2.1 dL_refuses_1022 (by decide) (fun cq4 => ?_) (fun cq4 => ?_)
                · refine lv_iload S.1 S.2.1 dL_refuses_1030 (lv_at hl 9 rfl) ?_
                  exact JJ _ (by rw [if_neg cq4])
                · refine lv_bipush (v := 6) S.1 S.2.1 dL_refuses_1025 (by decide) ?_
                  refine lv_goto (tgt := 1032) S.1 S.2.1 dL_refuses_1027 (by decide) ?_
                  exact JJ _ (by rw [if_pos cq4])
          · refine lv_icmp_ne (tgt := 1003) S.1 S.2.1 dL_refuses_994 (by decide) (fun cq3 => ?_) (fun cq3 => ?_)
            · refine lv_iload S.1 S.2.1 dL_refuses_1003 (lv_at hl 9 rfl) ?_
              exact JJ _ (by rw [if_neg cq3])
            · refine lv_sipush (v := 1001) S.1 S.2.1 dL_refuses_997 (by decide) ?_
              refine lv_goto (tgt := 1005) S.1 S.2.1 dL_refuses_1000 (by decide) ?_
              exact JJ _ (by rw [if_pos cq3])
      · refine lv_icmp_ne (tgt := 972) S.1 S.2.1 dL_refuses_965 (by decide) (fun cq2 => ?_) (fun cq2 => ?_)
        · refine lv_iload S.1 S.2.1 dL_refuses_972 (lv_at hl 9 rfl) ?_
          exact JJ _ (by rw [if_neg cq2])
        · refine lv_iconst (v := 4) S.1 S.2.1 dL_refuses_968 (by decide) ?_
          refine lv_goto (tgt := 974) S.1 S.2.1 dL_refuses_969 (by decide) ?_
          exact JJ _ (by rw [if_pos cq2])
  · refine lv_icmp_ne (tgt := 943) S.1 S.2.1 dL_refuses_935 (by decide) (fun cq1 => ?_) (fun cq1 => ?_)
    · refine lv_iload S.1 S.2.1 dL_refuses_943 (lv_at hl 9 rfl) ?_
      exact JJ _ (by rw [if_neg cq1])
    · refine lv_bipush (v := 6) S.1 S.2.1 dL_refuses_938 (by decide) ?_
      refine lv_goto (tgt := 945) S.1 S.2.1 dL_refuses_940 (by decide) ?_
      exact JJ _ (by rw [if_pos cq1])
def fL_ref1075 (m : dM) (p1 : Int32) (p2 : Int32) (p3 : Int32) (p4 : Int32) (w8 : Int32) (w9 : Int32) (w10 : Int32) (w11 : Int32) (w12 : Int32) : Option dM := dlet (if w8 = 1 then 6 else w9 : Int32) (fun v1 => (fL_act m 0 19 v1 0 0 0).bind (fun q => dP2 q (fun v4 m3 => if (lg_cmp v4 (-72)) = 0 then dlet (if w8 = 0 then 0 else if w8 = 1 then 10000 else w9 : Int32) (fun v5 => (fL_act m3 0 20 v5 0 0 0).bind (fun q => dP2 q (fun v8 m7 => if (lg_cmp v8 (-72)) = 0 then dlet (if w8 = 1 then 61 else w9 : Int32) (fun v9 => (fL_act m7 0 20 1 v9 0 0).bind (fun q => dP2 q (fun v12 m11 => if (lg_cmp v12 (-72)) = 0 then (fL_toss m11 0 w12 0 0 0 0).bind (fun q => dP2 q (fun v15 m14 => if v15 = (-71) then (fL_toss m14 0 0 0 w10 0 0).bind (fun q => dP2 q (fun v18 m17 => if v18 = (-71) then some m17 else none)) else none)) else none))) else none))) else none)))
set_option maxHeartbeats 4000000 in
set_option maxRecDepth 100000 in
theorem kL_ref1075 {p : Program} {l : Launch} {e : Env} {s : State} {mth : MethodId} {below : List Frame} {meth : Method} {c : Code} {g : dG} {Q : State → Prop} {H : Heap} {cells slots : Nat} {ls : Array Slot} {m m9 : dM} {p1 : Int32} {p2 : Int32} {p3 : Int32} {p4 : Int32} {w8 : Int32} {w9 : Int32} {w10 : Int32} {w11 : Int32} {w12 : Int32} {w6 : Int32} {w7 : Int32} {locs : List Loc} (hst : l.stackTraces = false) (S : CallFix p mth c cL_refuses 14 s (([.ref (dad g 0), .int p1, .int p2, .int p3, .int p4] : List Value).toArray) wsL_refuses RL) (hE : dEnv g s) (hR : cells + 24 ≤ (headSpec wsL_refuses (dXm 11 216 936)).room.cells ∧ slots + 144 ≤ (headSpec wsL_refuses (dXm 11 216 936)).room.slots) (h : fL_ref1075 m p1 p2 p3 p4 w8 w9 w10 w11 w12 = some m9) (hP : va_P g.1 vwCl (dws g m) H) (hS : va_S (dA g) s.heap H locs) (hl : lv_has ls 14 [(0, .ref (dad g 0)), (1, .int p1), (2, .int p2), (3, .int p3), (4, .int p4), (5, .int 2147483647), (6, .int w6), (7, .int w7), (8, .int w8), (9, .int w9), (10, .int w10), (11, .int w11), (12, .int w12), (13, .int 1)])
    (kk : ∀ (H : Heap) (locs : List Loc) (ls : Array Slot) (cells2 slots2 : Nat), cells2 ≤ cells + 24 → slots2 ≤ slots + 144 → va_P g.1 vwCl (dws g m9) H → va_S (dA g) s.heap H locs → lv_has ls 14 [(0, .ref (dad g 0)), (1, .int p1), (2, .int p2), (3, .int p3), (4, .int p4), (5, .int 2147483647), (6, .int w6), (7, .int w7), (8, .int w8), (9, .int w9), (10, .int w10), (11, .int w11), (12, .int w12), (13, .int 1)] → W p l e (headSpec wsL_refuses (dXm 11 216 936)).room s mth (([.ref (dad g 0), .int p1, .int p2, .int p3, .int p4] : List Value).toArray) below meth c H locs cells2 slots2 Q (F0 mth 1209 ls [])) : W p l e (headSpec wsL_refuses (dXm 11 216 936)).room s mth (([.ref (dad g 0), .int p1, .int p2, .int p3, .int p4] : List Value).toArray) below meth c H locs cells slots Q (F0 mth 1075 ls []) := by
  obtain ⟨hR1, hR2⟩ := hR
  unfold fL_ref1075 at h
  refine lv_aload_n S.1 S.2.1 dL_refuses_1075 rfl (lv_at hl 0 rfl) ?_
  refine lv_bipush (v := 19) S.1 S.2.1 dL_refuses_1076 (by decide) ?_
  refine lv_iload S.1 S.2.1 dL_refuses_1078 (lv_at hl 8 rfl) ?_
  refine lv_iconst (v := 1) S.1 S.2.1 dL_refuses_1080 (by decide) ?_
  refine W_tern (E := (if w8 = 1 then 6 else w9 : Int32)) (J := 1091) (rest := [.int 19, .ref (dad g 0)]) (fun v1 ev1 => ?_) (fun JJ => ?_)
  · have h := d_let ev1 h
    refine lv_iconst (v := 0) S.1 S.2.1 dL_refuses_1091 (by decide) ?_
    refine lv_iconst (v := 0) S.1 S.2.1 dL_refuses_1092 (by decide) ?_
    refine lv_iconst (v := 0) S.1 S.2.1 dL_refuses_1093 (by decide) ?_
    obtain ⟨⟨v4, m3⟩, hc2, h⟩ := d_b h
    have h := d_p2 h
    refine doLj (vx_runSX (As := [.ref (dad g 0), .int 19, .int v1, .int 0, .int 0, .int 0]) (rest := []) S (kL_act l g hst hc2) (vx_cwSW 6 S.2.2.2.2 gL_refuses_L_act rfl rfl rfl ynL_act ⟨(Nat.le_of_ble_eq_true rfl), (Nat.le_of_ble_eq_true rfl)⟩) (dpS hE hP hS) rfl rfl hl.1 rfl (lv_room (Nat.le_of_ble_eq_true rfl)) dL_refuses_1094 ⟨by omega, by omega⟩) hS (fun H locs hP hS => ?_)
    refine lv_ldc2 (v := (-72)) S.1 S.2.1 S.2.2.2.1 (S.2.2.2.2 (.constantLong RL 104 (-72)) (List.mem_of_getElem? (i := 2) rfl)) dL_refuses_1097 ?_
    refine W.lcmp S.1 S.2.1 dL_refuses_1100 ?_
    refine lv_if_ne (tgt := 1206) S.1 S.2.1 dL_refuses_1101 (by decide) (fun cq => ?_) (fun cq => ?_)
    · have h := d_f cq h
      cases h
    · have h := d_t cq h
      refine lv_aload_n S.1 S.2.1 dL_refuses_1104 rfl (lv_at hl 0 rfl) ?_
      refine lv_bipush (v := 20) S.1 S.2.1 dL_refuses_1105 (by decide) ?_
      refine lv_iload S.1 S.2.1 dL_refuses_1107 (lv_at hl 8 rfl) ?_
      refine W_tern (E := (if w8 = 0 then 0 else if w8 = 1 then 10000 else w9 : Int32)) (J := 1130) (rest := [.int 20, .ref (dad g 0)]) (fun v5 ev5 => ?_) (fun JJ => ?_)
      · have h := d_let ev5 h
        refine lv_iconst (v := 0) S.1 S.2.1 dL_refuses_1130 (by decide) ?_
        refine lv_iconst (v := 0) S.1 S.2.1 dL_refuses_1131 (by decide) ?_
        refine lv_iconst (v := 0) S.1 S.2.1 dL_refuses_1132 (by decide) ?_
        obtain ⟨⟨v8, m7⟩, hc6, h⟩ := d_b h
        have h := d_p2 h
        refine doLj (vx_runSX (As := [.ref (dad g 0), .int 20, .int v5, .int 0, .int 0, .int 0]) (rest := []) S (kL_act l g hst hc6) (vx_cwSW 6 S.2.2.2.2 gL_refuses_L_act rfl rfl rfl ynL_act ⟨(Nat.le_of_ble_eq_true rfl), (Nat.le_of_ble_eq_true rfl)⟩) (dpS hE hP hS) rfl rfl hl.1 rfl (lv_room (Nat.le_of_ble_eq_true rfl)) dL_refuses_1133 ⟨by omega, by omega⟩) hS (fun H locs hP hS => ?_)
        refine lv_ldc2 (v := (-72)) S.1 S.2.1 S.2.2.2.1 (S.2.2.2.2 (.constantLong RL 104 (-72)) (List.mem_of_getElem? (i := 2) rfl)) dL_refuses_1136 ?_
        refine W.lcmp S.1 S.2.1 dL_refuses_1139 ?_
        refine lv_if_ne (tgt := 1206) S.1 S.2.1 dL_refuses_1140 (by decide) (fun cq => ?_) (fun cq => ?_)
        · have h := d_f cq h
          cases h
        · have h := d_t cq h
          refine lv_aload_n S.1 S.2.1 dL_refuses_1143 rfl (lv_at hl 0 rfl) ?_
          refine lv_bipush (v := 20) S.1 S.2.1 dL_refuses_1144 (by decide) ?_
          refine lv_iconst (v := 1) S.1 S.2.1 dL_refuses_1146 (by decide) ?_
          refine lv_iload S.1 S.2.1 dL_refuses_1147 (lv_at hl 8 rfl) ?_
          refine lv_iconst (v := 1) S.1 S.2.1 dL_refuses_1149 (by decide) ?_
          refine W_tern (E := (if w8 = 1 then 61 else w9 : Int32)) (J := 1160) (rest := [.int 1, .int 20, .ref (dad g 0)]) (fun v9 ev9 => ?_) (fun JJ => ?_)
          · have h := d_let ev9 h
            refine lv_iconst (v := 0) S.1 S.2.1 dL_refuses_1160 (by decide) ?_
            refine lv_iconst (v := 0) S.1 S.2.1 dL_refuses_1161 (by decide) ?_
            obtain ⟨⟨v12, m11⟩, hc10, h⟩ := d_b h
            have h := d_p2 h
            refine doLj (vx_runSX (As := [.ref (dad g 0), .int 20, .int 1, .int v9, .int 0, .int 0]) (rest := []) S (kL_act l g hst hc10) (vx_cwSW 6 S.2.2.2.2 gL_refuses_L_act rfl rfl rfl ynL_act ⟨(Nat.le_of_ble_eq_true rfl), (Nat.le_of_ble_eq_true rfl)⟩) (dpS hE hP hS) rfl rfl hl.1 rfl (lv_room (Nat.le_of_ble_eq_true rfl)) dL_refuses_1162 ⟨by omega, by omega⟩) hS (fun H locs hP hS => ?_)
            refine lv_ldc2 (v := (-72)) S.1 S.2.1 S.2.2.2.1 (S.2.2.2.2 (.constantLong RL 104 (-72)) (List.mem_of_getElem? (i := 2) rfl)) dL_refuses_1165 ?_
            refine W.lcmp S.1 S.2.1 dL_refuses_1168 ?_
            refine lv_if_ne (tgt := 1206) S.1 S.2.1 dL_refuses_1169 (by decide) (fun cq => ?_) (fun cq => ?_)
            · have h := d_f cq h
              cases h
            · have h := d_t cq h
              refine lv_aload_n S.1 S.2.1 dL_refuses_1172 rfl (lv_at hl 0 rfl) ?_
              refine lv_iload S.1 S.2.1 dL_refuses_1173 (lv_at hl 12 rfl) ?_
              refine lv_iconst (v := 0) S.1 S.2.1 dL_refuses_1175 (by decide) ?_
              refine lv_iconst (v := 0) S.1 S.2.1 dL_refuses_1176 (by decide) ?_
              refine lv_iconst (v := 0) S.1 S.2.1 dL_refuses_1177 (by decide) ?_
              refine lv_iconst (v := 0) S.1 S.2.1 dL_refuses_1178 (by decide) ?_
              obtain ⟨⟨v15, m14⟩, hc13, h⟩ := d_b h
              have h := d_p2 h
              refine doLi (vx_runSX (As := [.ref (dad g 0), .int w12, .int 0, .int 0, .int 0, .int 0]) (rest := []) S (kL_toss l g hst hc13) (vx_cwSW 6 S.2.2.2.2 gL_refuses_L_toss rfl rfl rfl ynL_toss ⟨(Nat.le_of_ble_eq_true rfl), (Nat.le_of_ble_eq_true rfl)⟩) (dpS hE hP hS) rfl rfl hl.1 rfl (lv_room (Nat.le_of_ble_eq_true rfl)) dL_refuses_1179 ⟨by omega, by omega⟩) hS (fun H locs hP hS => ?_)
              refine lv_bipush (v := (-71)) S.1 S.2.1 dL_refuses_1182 (by decide) ?_
              refine lv_icmp_ne (tgt := 1206) S.1 S.2.1 dL_refuses_1184 (by decide) (fun cq => ?_) (fun cq => ?_)
              · have h := d_f cq h
                cases h
              · have h := d_t cq h
                refine lv_aload_n S.1 S.2.1 dL_refuses_1187 rfl (lv_at hl 0 rfl) ?_
                refine lv_iconst (v := 0) S.1 S.2.1 dL_refuses_1188 (by decide) ?_
                refine lv_iconst (v := 0) S.1 S.2.1 dL_refuses_1189 (by decide) ?_
                refine lv_iload S.1 S.2.1 dL_refuses_1190 (lv_at hl 10 rfl) ?_
                refine lv_iconst (v := 0) S.1 S.2.1 dL_refuses_1192 (by decide) ?_
                refine lv_iconst (v := 0) S.1 S.2.1 dL_refuses_1193 (by decide) ?_
                obtain ⟨⟨v18, m17⟩, hc16, h⟩ := d_b h
                have h := d_p2 h
                refine doLi (vx_runSX (As := [.ref (dad g 0), .int 0, .int 0, .int w10, .int 0, .int 0]) (rest := []) S (kL_toss l g hst hc16) (vx_cwSW 6 S.2.2.2.2 gL_refuses_L_toss rfl rfl rfl ynL_toss ⟨(Nat.le_of_ble_eq_true rfl), (Nat.le_of_ble_eq_true rfl)⟩) (dpS hE hP hS) rfl rfl hl.1 rfl (lv_room (Nat.le_of_ble_eq_true rfl)) dL_refuses_1194 ⟨by omega, by omega⟩) hS (fun H locs hP hS => ?_)
                refine lv_bipush (v := (-71)) S.1 S.2.1 dL_refuses_1197 (by decide) ?_
                refine lv_icmp_ne (tgt := 1206) S.1 S.2.1 dL_refuses_1199 (by decide) (fun cq => ?_) (fun cq => ?_)
                · have h := d_f cq h
                  cases h
                · have h := d_t cq h
                  refine lv_iconst (v := 1) S.1 S.2.1 dL_refuses_1202 (by decide) ?_
                  refine lv_goto (tgt := 1207) S.1 S.2.1 dL_refuses_1203 (by decide) ?_
                  refine lv_istore (lv' := [(13, .int 1), (0, .ref (dad g 0)), (1, .int p1), (2, .int p2), (3, .int p3), (4, .int p4), (5, .int 2147483647), (6, .int w6), (7, .int w7), (8, .int w8), (9, .int w9), (10, .int w10), (11, .int w11), (12, .int w12)]) S.1 S.2.1 dL_refuses_1207 hl (by decide) rfl (fun ls hl => ?_)
                  obtain rfl := Option.some.inj h
                  exact kk H locs ls _ _ (by omega) (by omega) hP hS (lv_sub hl [1, 2, 3, 4, 5, 6, 7, 8, 9, 10, 11, 12, 13, 0] rfl)
          · refine lv_icmp_ne (tgt := 1158) S.1 S.2.1 dL_refuses_1150 (by decide) (fun cq4 => ?_) (fun cq4 => ?_)
            · refine lv_iload S.1 S.2.1 dL_refuses_1158 (lv_at hl 9 rfl) ?_
              exact JJ _ (by rw [if_neg cq4])
            · refine lv_bipush (v := 61) S.1 S.2.1 dL_refuses_1153 (by decide) ?_
              refine lv_goto (tgt := 1160) S.1 S.2.1 dL_refuses_1155 (by decide) ?_
              exact JJ _ (by rw [if_pos cq4])
      · refine lv_if_ne (tgt := 1116) S.1 S.2.1 dL_refuses_1109 (by decide) (fun cq2 => ?_) (fun cq2 => ?_)
        · refine lv_iload S.1 S.2.1 dL_refuses_1116 (lv_at hl 8 rfl) ?_
          refine lv_iconst (v := 1) S.1 S.2.1 dL_refuses_1118 (by decide) ?_
          refine lv_icmp_ne (tgt := 1128) S.1 S.2.1 dL_refuses_1119 (by decide) (fun cq3 => ?_) (fun cq3 => ?_)
          · refine lv_iload S.1 S.2.1 dL_refuses_1128 (lv_at hl 9 rfl) ?_
            exact JJ _ (by rw [if_neg cq2, if_neg cq3])
          · refine lv_sipush (v := 10000) S.1 S.2.1 dL_refuses_1122 (by decide) ?_
            refine lv_goto (tgt := 1130) S.1 S.2.1 dL_refuses_1125 (by decide) ?_
            exact JJ _ (by rw [if_neg cq2, if_pos cq3])
        · refine lv_iconst (v := 0) S.1 S.2.1 dL_refuses_1112 (by decide) ?_
          refine lv_goto (tgt := 1130) S.1 S.2.1 dL_refuses_1113 (by decide) ?_
          exact JJ _ (by rw [if_pos cq2])
  · refine lv_icmp_ne (tgt := 1089) S.1 S.2.1 dL_refuses_1081 (by decide) (fun cq1 => ?_) (fun cq1 => ?_)
    · refine lv_iload S.1 S.2.1 dL_refuses_1089 (lv_at hl 9 rfl) ?_
      exact JJ _ (by rw [if_neg cq1])
    · refine lv_bipush (v := 6) S.1 S.2.1 dL_refuses_1084 (by decide) ?_
      refine lv_goto (tgt := 1091) S.1 S.2.1 dL_refuses_1086 (by decide) ?_
      exact JJ _ (by rw [if_pos cq1])
def fL_ref1209 (m : dM) (p1 : Int32) (p2 : Int32) (p3 : Int32) (p4 : Int32) (w8 : Int32) (w9 : Int32) (w10 : Int32) (w11 : Int32) (w12 : Int32) : Option dM := if p2 = 0 then some m else (fL_act m 0 0 4 0 0 0).bind (fun q => dP2 q (fun v3 m2 => if (lg_cmp v3 (-73)) = 0 then dlet (if w8 = 0 then 0 else if w8 = 1 then 65 else w9 : Int32) (fun v4 => (fL_act m2 0 7 0 v4 60 0).bind (fun q => dP2 q (fun v7 m6 => if (lg_cmp v7 (-72)) = 0 then dlet (if w8 = 0 then 59 else if w8 = 1 then 241 else w9 : Int32) (fun v8 => (fL_act m6 0 7 0 1 v8 0).bind (fun q => dP2 q (fun v11 m10 => if (lg_cmp v11 (-72)) = 0 then some m10 else none))) else none))) else none))
set_option maxHeartbeats 4000000 in
set_option maxRecDepth 100000 in
theorem kL_ref1209 {p : Program} {l : Launch} {e : Env} {s : State} {mth : MethodId} {below : List Frame} {meth : Method} {c : Code} {g : dG} {Q : State → Prop} {H : Heap} {cells slots : Nat} {ls : Array Slot} {m m9 : dM} {p1 : Int32} {p2 : Int32} {p3 : Int32} {p4 : Int32} {w8 : Int32} {w9 : Int32} {w10 : Int32} {w11 : Int32} {w12 : Int32} {w6 : Int32} {w7 : Int32} {locs : List Loc} (hst : l.stackTraces = false) (S : CallFix p mth c cL_refuses 14 s (([.ref (dad g 0), .int p1, .int p2, .int p3, .int p4] : List Value).toArray) wsL_refuses RL) (hE : dEnv g s) (hR : cells + 12 ≤ (headSpec wsL_refuses (dXm 11 216 936)).room.cells ∧ slots + 72 ≤ (headSpec wsL_refuses (dXm 11 216 936)).room.slots) (h : fL_ref1209 m p1 p2 p3 p4 w8 w9 w10 w11 w12 = some m9) (hP : va_P g.1 vwCl (dws g m) H) (hS : va_S (dA g) s.heap H locs) (hl : lv_has ls 14 [(0, .ref (dad g 0)), (1, .int p1), (2, .int p2), (3, .int p3), (4, .int p4), (5, .int 2147483647), (6, .int w6), (7, .int w7), (8, .int w8), (9, .int w9), (10, .int w10), (11, .int w11), (12, .int w12), (13, .int 1)])
    (kk : ∀ (H : Heap) (locs : List Loc) (ls : Array Slot) (cells2 slots2 : Nat), cells2 ≤ cells + 12 → slots2 ≤ slots + 72 → va_P g.1 vwCl (dws g m9) H → va_S (dA g) s.heap H locs → lv_has ls 14 [(0, .ref (dad g 0)), (1, .int p1), (2, .int p2), (3, .int p3), (4, .int p4), (5, .int 2147483647), (6, .int w6), (7, .int w7), (8, .int w8), (9, .int w9), (10, .int w10), (11, .int w11), (12, .int w12), (13, .int 1)] → W p l e (headSpec wsL_refuses (dXm 11 216 936)).room s mth (([.ref (dad g 0), .int p1, .int p2, .int p3, .int p4] : List Value).toArray) below meth c H locs cells2 slots2 Q (F0 mth 1313 ls [])) : W p l e (headSpec wsL_refuses (dXm 11 216 936)).room s mth (([.ref (dad g 0), .int p1, .int p2, .int p3, .int p4] : List Value).toArray) below meth c H locs cells slots Q (F0 mth 1209 ls []) := by
  obtain ⟨hR1, hR2⟩ := hR
  unfold fL_ref1209 at h
  refine lv_iload S.1 S.2.1 dL_refuses_1209 (lv_at hl 13 rfl) ?_
  refine lv_if_eq (tgt := 1686) S.1 S.2.1 dL_refuses_1211 (by decide) (fun cq => ?_) (fun cq => ?_)
  · exact absurd cq (by decide)
  · refine lv_iload_n S.1 S.2.1 dL_refuses_1214 rfl (lv_at hl 2 rfl) ?_
    refine lv_if_eq (tgt := 1313) S.1 S.2.1 dL_refuses_1215 (by decide) (fun cq => ?_) (fun cq => ?_)
    · have h := d_t cq h
      obtain rfl := Option.some.inj h
      exact kk H locs ls _ _ (by omega) (by omega) hP hS (lv_sub hl [0, 1, 2, 3, 4, 5, 6, 7, 8, 9, 10, 11, 12, 13] rfl)
    · have h := d_f cq h
      refine lv_aload_n S.1 S.2.1 dL_refuses_1218 rfl (lv_at hl 0 rfl) ?_
      refine lv_iconst (v := 0) S.1 S.2.1 dL_refuses_1219 (by decide) ?_
      refine lv_iconst (v := 4) S.1 S.2.1 dL_refuses_1220 (by decide) ?_
      refine lv_iconst (v := 0) S.1 S.2.1 dL_refuses_1221 (by decide) ?_
      refine lv_iconst (v := 0) S.1 S.2.1 dL_refuses_1222 (by decide) ?_
      refine lv_iconst (v := 0) S.1 S.2.1 dL_refuses_1223 (by decide) ?_
      obtain ⟨⟨v3, m2⟩, hc1, h⟩ := d_b h
      have h := d_p2 h
      refine doLj (vx_runSX (As := [.ref (dad g 0), .int 0, .int 4, .int 0, .int 0, .int 0]) (rest := []) S (kL_act l g hst hc1) (vx_cwSW 6 S.2.2.2.2 gL_refuses_L_act rfl rfl rfl ynL_act ⟨(Nat.le_of_ble_eq_true rfl), (Nat.le_of_ble_eq_true rfl)⟩) (dpS hE hP hS) rfl rfl hl.1 rfl (lv_room (Nat.le_of_ble_eq_true rfl)) dL_refuses_1224 ⟨by omega, by omega⟩) hS (fun H locs hP hS => ?_)
      refine lv_ldc2 (v := (-73)) S.1 S.2.1 S.2.2.2.1 (S.2.2.2.2 (.constantLong RL 108 (-73)) (List.mem_of_getElem? (i := 4) rfl)) dL_refuses_1227 ?_
      refine W.lcmp S.1 S.2.1 dL_refuses_1230 ?_
      refine lv_if_ne (tgt := 1686) S.1 S.2.1 dL_refuses_1231 (by decide) (fun cq => ?_) (fun cq => ?_)
      · have h := d_f cq h
        cases h
      · have h := d_t cq h
        refine lv_aload_n S.1 S.2.1 dL_refuses_1234 rfl (lv_at hl 0 rfl) ?_
        refine lv_bipush (v := 7) S.1 S.2.1 dL_refuses_1235 (by decide) ?_
        refine lv_iconst (v := 0) S.1 S.2.1 dL_refuses_1237 (by decide) ?_
        refine lv_iload S.1 S.2.1 dL_refuses_1238 (lv_at hl 8 rfl) ?_
        refine W_tern (E := (if w8 = 0 then 0 else if w8 = 1 then 65 else w9 : Int32)) (J := 1260) (rest := [.int 0, .int 7, .ref (dad g 0)]) (fun v4 ev4 => ?_) (fun JJ => ?_)
        · have h := d_let ev4 h
          refine lv_bipush (v := 60) S.1 S.2.1 dL_refuses_1260 (by decide) ?_
          refine lv_iconst (v := 0) S.1 S.2.1 dL_refuses_1262 (by decide) ?_
          obtain ⟨⟨v7, m6⟩, hc5, h⟩ := d_b h
          have h := d_p2 h
          refine doLj (vx_runSX (As := [.ref (dad g 0), .int 7, .int 0, .int v4, .int 60, .int 0]) (rest := []) S (kL_act l g hst hc5) (vx_cwSW 6 S.2.2.2.2 gL_refuses_L_act rfl rfl rfl ynL_act ⟨(Nat.le_of_ble_eq_true rfl), (Nat.le_of_ble_eq_true rfl)⟩) (dpS hE hP hS) rfl rfl hl.1 rfl (lv_room (Nat.le_of_ble_eq_true rfl)) dL_refuses_1263 ⟨by omega, by omega⟩) hS (fun H locs hP hS => ?_)
          refine lv_ldc2 (v := (-72)) S.1 S.2.1 S.2.2.2.1 (S.2.2.2.2 (.constantLong RL 104 (-72)) (List.mem_of_getElem? (i := 2) rfl)) dL_refuses_1266 ?_
          refine W.lcmp S.1 S.2.1 dL_refuses_1269 ?_
          refine lv_if_ne (tgt := 1686) S.1 S.2.1 dL_refuses_1270 (by decide) (fun cq => ?_) (fun cq => ?_)
          · have h := d_f cq h
            cases h
          · have h := d_t cq h
            refine lv_aload_n S.1 S.2.1 dL_refuses_1273 rfl (lv_at hl 0 rfl) ?_
            refine lv_bipush (v := 7) S.1 S.2.1 dL_refuses_1274 (by decide) ?_
            refine lv_iconst (v := 0) S.1 S.2.1 dL_refuses_1276 (by decide) ?_
            refine lv_iconst (v := 1) S.1 S.2.1 dL_refuses_1277 (by decide) ?_
            refine lv_iload S.1 S.2.1 dL_refuses_1278 (lv_at hl 8 rfl) ?_
            refine W_tern (E := (if w8 = 0 then 59 else if w8 = 1 then 241 else w9 : Int32)) (J := 1302) (rest := [.int 1, .int 0, .int 7, .ref (dad g 0)]) (fun v8 ev8 => ?_) (fun JJ => ?_)
            · have h := d_let ev8 h
              refine lv_iconst (v := 0) S.1 S.2.1 dL_refuses_1302 (by decide) ?_
              obtain ⟨⟨v11, m10⟩, hc9, h⟩ := d_b h
              have h := d_p2 h
              refine doLj (vx_runSX (As := [.ref (dad g 0), .int 7, .int 0, .int 1, .int v8, .int 0]) (rest := []) S (kL_act l g hst hc9) (vx_cwSW 6 S.2.2.2.2 gL_refuses_L_act rfl rfl rfl ynL_act ⟨(Nat.le_of_ble_eq_true rfl), (Nat.le_of_ble_eq_true rfl)⟩) (dpS hE hP hS) rfl rfl hl.1 rfl (lv_room (Nat.le_of_ble_eq_true rfl)) dL_refuses_1303 ⟨by omega, by omega⟩) hS (fun H locs hP hS => ?_)
              refine lv_ldc2 (v := (-72)) S.1 S.2.1 S.2.2.2.1 (S.2.2.2.2 (.constantLong RL 104 (-72)) (List.mem_of_getElem? (i := 2) rfl)) dL_refuses_1306 ?_
              refine W.lcmp S.1 S.2.1 dL_refuses_1309 ?_
              refine lv_if_ne (tgt := 1686) S.1 S.2.1 dL_refuses_1310 (by decide) (fun cq => ?_) (fun cq => ?_)
              · have h := d_f cq h
                cases h
              · have h := d_t cq h
                obtain rfl := Option.some.inj h
                exact kk H locs ls _ _ (by omega) (by omega) hP hS (lv_sub hl [0, 1, 2, 3, 4, 5, 6, 7, 8, 9, 10, 11, 12, 13] rfl)
            · refine lv_if_ne (tgt := 1288) S.1 S.2.1 dL_refuses_1280 (by decide) (fun cq3 => ?_) (fun cq3 => ?_)
              · refine lv_iload S.1 S.2.1 dL_refuses_1288 (lv_at hl 8 rfl) ?_
                refine lv_iconst (v := 1) S.1 S.2.1 dL_refuses_1290 (by decide) ?_
                refine lv_icmp_ne (tgt := 1300) S.1 S.2.1 dL_refuses_1291 (by decide) (fun cq4 => ?_) (fun cq4 => ?_)
                · refine lv_iload S.1 S.2.1 dL_refuses_1300 (lv_at hl 9 rfl) ?_
                  exact JJ _ (by rw [if_neg cq3, if_neg cq4])
                · refine lv_sipush (v := 241) S.1 S.2.1 dL_refuses_1294 (by decide) ?_
                  refine lv_goto (tgt := 1302) S.1 S.2.1 dL_refuses_1297 (by decide) ?_
                  exact JJ _ (by rw [if_neg cq3, if_pos cq4])
              · refine lv_bipush (v := 59) S.1 S.2.1 dL_refuses_1283 (by decide) ?_
                refine lv_goto (tgt := 1302) S.1 S.2.1 dL_refuses_1285 (by decide) ?_
                exact JJ _ (by rw [if_pos cq3])
        · refine lv_if_ne (tgt := 1247) S.1 S.2.1 dL_refuses_1240 (by decide) (fun cq1 => ?_) (fun cq1 => ?_)
          · refine lv_iload S.1 S.2.1 dL_refuses_1247 (lv_at hl 8 rfl) ?_
            refine lv_iconst (v := 1) S.1 S.2.1 dL_refuses_1249 (by decide) ?_
            refine lv_icmp_ne (tgt := 1258) S.1 S.2.1 dL_refuses_1250 (by decide) (fun cq2 => ?_) (fun cq2 => ?_)
            · refine lv_iload S.1 S.2.1 dL_refuses_1258 (lv_at hl 9 rfl) ?_
              exact JJ _ (by rw [if_neg cq1, if_neg cq2])
            · refine lv_bipush (v := 65) S.1 S.2.1 dL_refuses_1253 (by decide) ?_
              refine lv_goto (tgt := 1260) S.1 S.2.1 dL_refuses_1255 (by decide) ?_
              exact JJ _ (by rw [if_neg cq1, if_pos cq2])
          · refine lv_iconst (v := 0) S.1 S.2.1 dL_refuses_1243 (by decide) ?_
            refine lv_goto (tgt := 1260) S.1 S.2.1 dL_refuses_1244 (by decide) ?_
            exact JJ _ (by rw [if_pos cq1])
def fL_ref1313 (m : dM) (p1 : Int32) (p2 : Int32) (p3 : Int32) (p4 : Int32) (w8 : Int32) (w9 : Int32) (w10 : Int32) (w11 : Int32) (w12 : Int32) : Option dM := if p3 = 0 then some m else dlet (if w8 = 0 then 0 else if w8 = 1 then 65 else w9 : Int32) (fun v1 => (fL_act m 0 8 0 0 v1 60).bind (fun q => dP2 q (fun v4 m3 => if (lg_cmp v4 (-72)) = 0 then dlet (if w8 = 0 then 59 else if w8 = 1 then 241 else w9 : Int32) (fun v5 => (fL_act m3 0 8 0 0 1 v5).bind (fun q => dP2 q (fun v8 m7 => if (lg_cmp v8 (-72)) = 0 then dlet (if w8 = 1 then p4 + 1 else w9 : Int32) (fun v9 => (fL_act m7 0 12 0 v9 0 0).bind (fun q => dP2 q (fun v12 m11 => if (lg_cmp v12 (-72)) = 0 then dlet (if w8 = 1 then 4 else w9 : Int32) (fun v13 => (fL_act m11 0 13 0 v13 0 0).bind (fun q => dP2 q (fun v16 m15 => if (lg_cmp v16 (-72)) = 0 then dlet (if w8 = 1 then p4 + 1 else w9 : Int32) (fun v17 => (fL_act m15 0 14 0 v17 0 (-1)).bind (fun q => dP2 q (fun v20 m19 => if (lg_cmp v20 (-72)) = 0 then dlet (if w8 = 1 then 1601 else w9 : Int32) (fun v21 => (fL_act m19 0 14 0 0 v21 (-1)).bind (fun q => dP2 q (fun v24 m23 => if (lg_cmp v24 (-72)) = 0 then dlet (if w8 = 0 then 0 else if w8 = 1 then (-1001) else w9 : Int32) (fun v25 => (fL_act m23 0 14 0 0 0 v25).bind (fun q => dP2 q (fun v28 m27 => if (lg_cmp v28 (-72)) = 0 then dlet (if w8 = 1 then 4 else w9 : Int32) (fun v29 => (fL_act m27 0 15 0 0 v29 0).bind (fun q => dP2 q (fun v32 m31 => if (lg_cmp v32 (-72)) = 0 then dlet (if w8 = 1 then p4 + 1 else w9 : Int32) (fun v33 => (fL_toss m31 0 0 v33 0 1 0).bind (fun q => dP2 q (fun v36 m35 => if v36 = (-72) then dlet (if w8 = 0 then 0 else if w8 = 1 then 10 else w9 : Int32) (fun v37 => (fL_toss m35 0 0 0 0 v37 0).bind (fun q => dP2 q (fun v40 m39 => if v40 = (-72) then dlet (if w8 = 0 then (-21) else if w8 = 1 then 21 else w9 : Int32) (fun v41 => (fL_toss m39 0 0 0 0 1 v41).bind (fun q => dP2 q (fun v44 m43 => if v44 = (-72) then some m43 else none))) else none))) else none))) else none))) else none))) else none))) else none))) else none))) else none))) else none))) else none)))
set_option maxHeartbeats 4000000 in
set_option maxRecDepth 100000 in
theorem kL_ref1313 {p : Program} {l : Launch} {e : Env} {s : State} {mth : MethodId} {below : List Frame} {meth : Method} {c : Code} {g : dG} {Q : State → Prop} {H : Heap} {cells slots : Nat} {ls : Array Slot} {m m9 : dM} {p1 : Int32} {p2 : Int32} {p3 : Int32} {p4 : Int32} {w8 : Int32} {w9 : Int32} {w10 : Int32} {w11 : Int32} {w12 : Int32} {w6 : Int32} {w7 : Int32} {locs : List Loc} (hst : l.stackTraces = false) (S : CallFix p mth c cL_refuses 14 s (([.ref (dad g 0), .int p1, .int p2, .int p3, .int p4] : List Value).toArray) wsL_refuses RL) (hE : dEnv g s) (hR : cells + 50 ≤ (headSpec wsL_refuses (dXm 11 216 936)).room.cells ∧ slots + 300 ≤ (headSpec wsL_refuses (dXm 11 216 936)).room.slots) (h : fL_ref1313 m p1 p2 p3 p4 w8 w9 w10 w11 w12 = some m9) (hP : va_P g.1 vwCl (dws g m) H) (hS : va_S (dA g) s.heap H locs) (hl : lv_has ls 14 [(0, .ref (dad g 0)), (1, .int p1), (2, .int p2), (3, .int p3), (4, .int p4), (5, .int 2147483647), (6, .int w6), (7, .int w7), (8, .int w8), (9, .int w9), (10, .int w10), (11, .int w11), (12, .int w12), (13, .int 1)])
    (kk : ∀ (H : Heap) (locs : List Loc) (ls : Array Slot) (cells2 slots2 : Nat), cells2 ≤ cells + 50 → slots2 ≤ slots + 300 → va_P g.1 vwCl (dws g m9) H → va_S (dA g) s.heap H locs → lv_has ls 14 [(0, .ref (dad g 0)), (1, .int p1), (2, .int p2), (3, .int p3), (4, .int p4), (5, .int 2147483647), (6, .int w6), (7, .int w7), (8, .int w8)] → W p l e (headSpec wsL_refuses (dXm 11 216 936)).room s mth (([.ref (dad g 0), .int p1, .int p2, .int p3, .int p4] : List Value).toArray) below meth c H locs cells2 slots2 Q (F0 mth 1696 ls [])) : W p l e (headSpec wsL_refuses (dXm 11 216 936)).room s mth (([.ref (dad g 0), .int p1, .int p2, .int p3, .int p4] : List Value).toArray) below meth c H locs cells slots Q (F0 mth 1313 ls []) := by
  obtain ⟨hR1, hR2⟩ := hR
  unfold fL_ref1313 at h
  refine lv_iload_n S.1 S.2.1 dL_refuses_1313 rfl (lv_at hl 3 rfl) ?_
  refine lv_if_eq (tgt := 1682) S.1 S.2.1 dL_refuses_1314 (by decide) (fun cq => ?_) (fun cq => ?_)
  · have h := d_t cq h
    refine lv_iconst (v := 1) S.1 S.2.1 dL_refuses_1682 (by decide) ?_
    refine lv_goto (tgt := 1687) S.1 S.2.1 dL_refuses_1683 (by decide) ?_
    refine lv_istore (lv' := [(13, .int 1), (0, .ref (dad g 0)), (1, .int p1), (2, .int p2), (3, .int p3), (4, .int p4), (5, .int 2147483647), (6, .int w6), (7, .int w7), (8, .int w8), (9, .int w9), (10, .int w10), (11, .int w11), (12, .int w12)]) S.1 S.2.1 dL_refuses_1687 hl (by decide) rfl (fun ls hl => ?_)
    refine lv_iload S.1 S.2.1 dL_refuses_1689 (lv_at hl 0 rfl) ?_
    refine lv_if_ne (tgt := 1696) S.1 S.2.1 dL_refuses_1691 (by decide) (fun cq => ?_) (fun cq => ?_)
    · obtain rfl := Option.some.inj h
      exact kk H locs ls _ _ (by omega) (by omega) hP hS (lv_sub hl [1, 2, 3, 4, 5, 6, 7, 8, 9] rfl)
    · exact absurd cq (by decide)
  · have h := d_f cq h
    refine lv_aload_n S.1 S.2.1 dL_refuses_1317 rfl (lv_at hl 0 rfl) ?_
    refine lv_bipush (v := 8) S.1 S.2.1 dL_refuses_1318 (by decide) ?_
    refine lv_iconst (v := 0) S.1 S.2.1 dL_refuses_1320 (by decide) ?_
    refine lv_iconst (v := 0) S.1 S.2.1 dL_refuses_1321 (by decide) ?_
    refine lv_iload S.1 S.2.1 dL_refuses_1322 (lv_at hl 8 rfl) ?_
    refine W_tern (E := (if w8 = 0 then 0 else if w8 = 1 then 65 else w9 : Int32)) (J := 1344) (rest := [.int 0, .int 0, .int 8, .ref (dad g 0)]) (fun v1 ev1 => ?_) (fun JJ => ?_)
    · have h := d_let ev1 h
      refine lv_bipush (v := 60) S.1 S.2.1 dL_refuses_1344 (by decide) ?_
      obtain ⟨⟨v4, m3⟩, hc2, h⟩ := d_b h
      have h := d_p2 h
      refine doLj (vx_runSX (As := [.ref (dad g 0), .int 8, .int 0, .int 0, .int v1, .int 60]) (rest := []) S (kL_act l g hst hc2) (vx_cwSW 6 S.2.2.2.2 gL_refuses_L_act rfl rfl rfl ynL_act ⟨(Nat.le_of_ble_eq_true rfl), (Nat.le_of_ble_eq_true rfl)⟩) (dpS hE hP hS) rfl rfl hl.1 rfl (lv_room (Nat.le_of_ble_eq_true rfl)) dL_refuses_1346 ⟨by omega, by omega⟩) hS (fun H locs hP hS => ?_)
      refine lv_ldc2 (v := (-72)) S.1 S.2.1 S.2.2.2.1 (S.2.2.2.2 (.constantLong RL 104 (-72)) (List.mem_of_getElem? (i := 2) rfl)) dL_refuses_1349 ?_
      refine W.lcmp S.1 S.2.1 dL_refuses_1352 ?_
      refine lv_if_ne (tgt := 1686) S.1 S.2.1 dL_refuses_1353 (by decide) (fun cq => ?_) (fun cq => ?_)
      · have h := d_f cq h
        cases h
      · have h := d_t cq h
        refine lv_aload_n S.1 S.2.1 dL_refuses_1356 rfl (lv_at hl 0 rfl) ?_
        refine lv_bipush (v := 8) S.1 S.2.1 dL_refuses_1357 (by decide) ?_
        refine lv_iconst (v := 0) S.1 S.2.1 dL_refuses_1359 (by decide) ?_
        refine lv_iconst (v := 0) S.1 S.2.1 dL_refuses_1360 (by decide) ?_
        refine lv_iconst (v := 1) S.1 S.2.1 dL_refuses_1361 (by decide) ?_
        refine lv_iload S.1 S.2.1 dL_refuses_1362 (lv_at hl 8 rfl) ?_
        refine W_tern (E := (if w8 = 0 then 59 else if w8 = 1 then 241 else w9 : Int32)) (J := 1386) (rest := [.int 1, .int 0, .int 0, .int 8, .ref (dad g 0)]) (fun v5 ev5 => ?_) (fun JJ => ?_)
        · have h := d_let ev5 h
          obtain ⟨⟨v8, m7⟩, hc6, h⟩ := d_b h
          have h := d_p2 h
          refine doLj (vx_runSX (As := [.ref (dad g 0), .int 8, .int 0, .int 0, .int 1, .int v5]) (rest := []) S (kL_act l g hst hc6) (vx_cwSW 6 S.2.2.2.2 gL_refuses_L_act rfl rfl rfl ynL_act ⟨(Nat.le_of_ble_eq_true rfl), (Nat.le_of_ble_eq_true rfl)⟩) (dpS hE hP hS) rfl rfl hl.1 rfl (lv_room (Nat.le_of_ble_eq_true rfl)) dL_refuses_1386 ⟨by omega, by omega⟩) hS (fun H locs hP hS => ?_)
          refine lv_ldc2 (v := (-72)) S.1 S.2.1 S.2.2.2.1 (S.2.2.2.2 (.constantLong RL 104 (-72)) (List.mem_of_getElem? (i := 2) rfl)) dL_refuses_1389 ?_
          refine W.lcmp S.1 S.2.1 dL_refuses_1392 ?_
          refine lv_if_ne (tgt := 1686) S.1 S.2.1 dL_refuses_1393 (by decide) (fun cq => ?_) (fun cq => ?_)
          · have h := d_f cq h
            cases h
          · have h := d_t cq h
            refine lv_aload_n S.1 S.2.1 dL_refuses_1396 rfl (lv_at hl 0 rfl) ?_
            refine lv_bipush (v := 12) S.1 S.2.1 dL_refuses_1397 (by decide) ?_
            refine lv_iconst (v := 0) S.1 S.2.1 dL_refuses_1399 (by decide) ?_
            refine lv_iload S.1 S.2.1 dL_refuses_1400 (lv_at hl 8 rfl) ?_
            refine lv_iconst (v := 1) S.1 S.2.1 dL_refuses_1402 (by decide) ?_
            refine W_tern (E := (if w8 = 1 then p4 + 1 else w9 : Int32)) (J := 1415) (rest := [.int 0, .int 12, .ref (dad g 0)]) (fun v9 ev9 => ?_) (fun JJ => ?_)
            · have h := d_let ev9 h
              refine lv_iconst (v := 0) S.1 S.2.1 dL_refuses_1415 (by decide) ?_
              refine lv_iconst (v := 0) S.1 S.2.1 dL_refuses_1416 (by decide) ?_
              obtain ⟨⟨v12, m11⟩, hc10, h⟩ := d_b h
              have h := d_p2 h
              refine doLj (vx_runSX (As := [.ref (dad g 0), .int 12, .int 0, .int v9, .int 0, .int 0]) (rest := []) S (kL_act l g hst hc10) (vx_cwSW 6 S.2.2.2.2 gL_refuses_L_act rfl rfl rfl ynL_act ⟨(Nat.le_of_ble_eq_true rfl), (Nat.le_of_ble_eq_true rfl)⟩) (dpS hE hP hS) rfl rfl hl.1 rfl (lv_room (Nat.le_of_ble_eq_true rfl)) dL_refuses_1417 ⟨by omega, by omega⟩) hS (fun H locs hP hS => ?_)
              refine lv_ldc2 (v := (-72)) S.1 S.2.1 S.2.2.2.1 (S.2.2.2.2 (.constantLong RL 104 (-72)) (List.mem_of_getElem? (i := 2) rfl)) dL_refuses_1420 ?_
              refine W.lcmp S.1 S.2.1 dL_refuses_1423 ?_
              refine lv_if_ne (tgt := 1686) S.1 S.2.1 dL_refuses_1424 (by decide) (fun cq => ?_) (fun cq => ?_)
              · have h := d_f cq h
                cases h
              · have h := d_t cq h
                refine lv_aload_n S.1 S.2.1 dL_refuses_1427 rfl (lv_at hl 0 rfl) ?_
                refine lv_bipush (v := 13) S.1 S.2.1 dL_refuses_1428 (by decide) ?_
                refine lv_iconst (v := 0) S.1 S.2.1 dL_refuses_1430 (by decide) ?_
                refine lv_iload S.1 S.2.1 dL_refuses_1431 (lv_at hl 8 rfl) ?_
                refine lv_iconst (v := 1) S.1 S.2.1 dL_refuses_1433 (by decide) ?_
                refine W_tern (E := (if w8 = 1 then 4 else w9 : Int32)) (J := 1443) (rest := [.int 0, .int 13, .ref (dad g 0)]) (fun v13 ev13 => ?_) (fun JJ => ?_)
                · have h := d_let ev13 h
                  refine lv_iconst (v := 0) S.1 S.2.1 dL_refuses_1443 (by decide) ?_
                  refine lv_iconst (v := 0) S.1 S.2.1 dL_refuses_1444 (by decide) ?_
                  obtain ⟨⟨v16, m15⟩, hc14, h⟩ := d_b h
                  have h := d_p2 h
                  refine doLj (vx_runSX (As := [.ref (dad g 0), .int 13, .int 0, .int v13, .int 0, .int 0]) (rest := []) S (kL_act l g hst hc14) (vx_cwSW 6 S.2.2.2.2 gL_refuses_L_act rfl rfl rfl ynL_act ⟨(Nat.le_of_ble_eq_true rfl), (Nat.le_of_ble_eq_true rfl)⟩) (dpS hE hP hS) rfl rfl hl.1 rfl (lv_room (Nat.le_of_ble_eq_true rfl)) dL_refuses_1445 ⟨by omega, by omega⟩) hS (fun H locs hP hS => ?_)
                  refine lv_ldc2 (v := (-72)) S.1 S.2.1 S.2.2.2.1 (S.2.2.2.2 (.constantLong RL 104 (-72)) (List.mem_of_getElem? (i := 2) rfl)) dL_refuses_1448 ?_
                  refine W.lcmp S.1 S.2.1 dL_refuses_1451 ?_
                  refine lv_if_ne (tgt := 1686) S.1 S.2.1 dL_refuses_1452 (by decide) (fun cq => ?_) (fun cq => ?_)
                  · have h := d_f cq h
                    cases h
                  · have h := d_t cq h
                    refine lv_aload_n S.1 S.2.1 dL_refuses_1455 rfl (lv_at hl 0 rfl) ?_
                    refine lv_bipush (v := 14) S.1 S.2.1 dL_refuses_1456 (by decide) ?_
                    refine lv_iconst (v := 0) S.1 S.2.1 dL_refuses_1458 (by decide) ?_
                    refine lv_iload S.1 S.2.1 dL_refuses_1459 (lv_at hl 8 rfl) ?_
                    refine lv_iconst (v := 1) S.1 S.2.1 dL_refuses_1461 (by decide) ?_
                    refine W_tern (E := (if w8 = 1 then p4 + 1 else w9 : Int32)) (J := 1474) (rest := [.int 0, .int 14, .ref (dad g 0)]) (fun v17 ev17 => ?_) (fun JJ => ?_)
                    · have h := d_let ev17 h
                      refine lv_iconst (v := 0) S.1 S.2.1 dL_refuses_1474 (by decide) ?_
                      refine lv_iconst (v := (-1)) S.1 S.2.1 dL_refuses_1475 (by decide) ?_
                      obtain ⟨⟨v20, m19⟩, hc18, h⟩ := d_b h
                      have h := d_p2 h
                      refine doLj (vx_runSX (As := [.ref (dad g 0), .int 14, .int 0, .int v17, .int 0, .int (-1)]) (rest := []) S (kL_act l g hst hc18) (vx_cwSW 6 S.2.2.2.2 gL_refuses_L_act rfl rfl rfl ynL_act ⟨(Nat.le_of_ble_eq_true rfl), (Nat.le_of_ble_eq_true rfl)⟩) (dpS hE hP hS) rfl rfl hl.1 rfl (lv_room (Nat.le_of_ble_eq_true rfl)) dL_refuses_1476 ⟨by omega, by omega⟩) hS (fun H locs hP hS => ?_)
                      refine lv_ldc2 (v := (-72)) S.1 S.2.1 S.2.2.2.1 (S.2.2.2.2 (.constantLong RL 104 (-72)) (List.mem_of_getElem? (i := 2) rfl)) dL_refuses_1479 ?_
                      refine W.lcmp S.1 S.2.1 dL_refuses_1482 ?_
                      refine lv_if_ne (tgt := 1686) S.1 S.2.1 dL_refuses_1483 (by decide) (fun cq => ?_) (fun cq => ?_)
                      · have h := d_f cq h
                        cases h
                      · have h := d_t cq h
                        refine lv_aload_n S.1 S.2.1 dL_refuses_1486 rfl (lv_at hl 0 rfl) ?_
                        refine lv_bipush (v := 14) S.1 S.2.1 dL_refuses_1487 (by decide) ?_
                        refine lv_iconst (v := 0) S.1 S.2.1 dL_refuses_1489 (by decide) ?_
                        refine lv_iconst (v := 0) S.1 S.2.1 dL_refuses_1490 (by decide) ?_
                        refine lv_iload S.1 S.2.1 dL_refuses_1491 (lv_at hl 8 rfl) ?_
                        refine lv_iconst (v := 1) S.1 S.2.1 dL_refuses_1493 (by decide) ?_
                        refine W_tern (E := (if w8 = 1 then 1601 else w9 : Int32)) (J := 1505) (rest := [.int 0, .int 0, .int 14, .ref (dad g 0)]) (fun v21 ev21 => ?_) (fun JJ => ?_)
                        · have h := d_let ev21 h
                          refine lv_iconst (v := (-1)) S.1 S.2.1 dL_refuses_1505 (by decide) ?_
                          obtain ⟨⟨v24, m23⟩, hc22, h⟩ := d_b h
                          have h := d_p2 h
                          refine doLj (vx_runSX (As := [.ref (dad g 0), .int 14, .int 0, .int 0, .int v21, .int (-1)]) (rest := []) S (kL_act l g hst hc22) (vx_cwSW 6 S.2.2.2.2 gL_refuses_L_act rfl rfl rfl ynL_act ⟨(Nat.le_of_ble_eq_true rfl), (Nat.le_of_ble_eq_true rfl)⟩) (dpS hE hP hS) rfl rfl hl.1 rfl (lv_room (Nat.le_of_ble_eq_true rfl)) dL_refuses_1506 ⟨by omega, by omega⟩) hS (fun H locs hP hS => ?_)
                          refine lv_ldc2 (v := (-72)) S.1 S.2.1 S.2.2.2.1 (S.2.2.2.2 (.constantLong RL 104 (-72)) (List.mem_of_getElem? (i := 2) rfl)) dL_refuses_1509 ?_
                          refine W.lcmp S.1 S.2.1 dL_refuses_1512 ?_
                          refine lv_if_ne (tgt := 1686) S.1 S.2.1 dL_refuses_1513 (by decide) (fun cq => ?_) (fun cq => ?_)
                          · have h := d_f cq h
                            cases h
                          · have h := d_t cq h
                            refine lv_aload_n S.1 S.2.1 dL_refuses_1516 rfl (lv_at hl 0 rfl) ?_
                            refine lv_bipush (v := 14) S.1 S.2.1 dL_refuses_1517 (by decide) ?_
                            refine lv_iconst (v := 0) S.1 S.2.1 dL_refuses_1519 (by decide) ?_
                            refine lv_iconst (v := 0) S.1 S.2.1 dL_refuses_1520 (by decide) ?_
                            refine lv_iconst (v := 0) S.1 S.2.1 dL_refuses_1521 (by decide) ?_
                            refine lv_iload S.1 S.2.1 dL_refuses_1522 (lv_at hl 8 rfl) ?_
                            refine W_tern (E := (if w8 = 0 then 0 else if w8 = 1 then (-1001) else w9 : Int32)) (J := 1545) (rest := [.int 0, .int 0, .int 0, .int 14, .ref (dad g 0)]) (fun v25 ev25 => ?_) (fun JJ => ?_)
                            · have h := d_let ev25 h
                              obtain ⟨⟨v28, m27⟩, hc26, h⟩ := d_b h
                              have h := d_p2 h
                              refine doLj (vx_runSX (As := [.ref (dad g 0), .int 14, .int 0, .int 0, .int 0, .int v25]) (rest := []) S (kL_act l g hst hc26) (vx_cwSW 6 S.2.2.2.2 gL_refuses_L_act rfl rfl rfl ynL_act ⟨(Nat.le_of_ble_eq_true rfl), (Nat.le_of_ble_eq_true rfl)⟩) (dpS hE hP hS) rfl rfl hl.1 rfl (lv_room (Nat.le_of_ble_eq_true rfl)) dL_refuses_1545 ⟨by omega, by omega⟩) hS (fun H locs hP hS => ?_)
                              refine lv_ldc2 (v := (-72)) S.1 S.2.1 S.2.2.2.1 (S.2.2.2.2 (.constantLong RL 104 (-72)) (List.mem_of_getElem? (i := 2) rfl)) dL_refuses_1548 ?_
                              refine W.lcmp S.1 S.2.1 dL_refuses_1551 ?_
                              refine lv_if_ne (tgt := 1686) S.1 S.2.1 dL_refuses_1552 (by decide) (fun cq => ?_) (fun cq => ?_)
                              · have h := d_f cq h
                                cases h
                              · have h := d_t cq h
                                refine lv_aload_n S.1 S.2.1 dL_refuses_1555 rfl (lv_at hl 0 rfl) ?_
                                refine lv_bipush (v := 15) S.1 S.2.1 dL_refuses_1556 (by decide) ?_
                                refine lv_iconst (v := 0) S.1 S.2.1 dL_refuses_1558 (by decide) ?_
                                refine lv_iconst (v := 0) S.1 S.2.1 dL_refuses_1559 (by decide) ?_
                                refine lv_iload S.1 S.2.1 dL_refuses_1560 (lv_at hl 8 rfl) ?_
                                refine lv_iconst (v := 1) S.1 S.2.1 dL_refuses_1562 (by decide) ?_
                                refine W_tern (E := (if w8 = 1 then 4 else w9 : Int32)) (J := 1572) (rest := [.int 0, .int 0, .int 15, .ref (dad g 0)]) (fun v29 ev29 => ?_) (fun JJ => ?_)
                                · have h := d_let ev29 h
                                  refine lv_iconst (v := 0) S.1 S.2.1 dL_refuses_1572 (by decide) ?_
                                  obtain ⟨⟨v32, m31⟩, hc30, h⟩ := d_b h
                                  have h := d_p2 h
                                  refine doLj (vx_runSX (As := [.ref (dad g 0), .int 15, .int 0, .int 0, .int v29, .int 0]) (rest := []) S (kL_act l g hst hc30) (vx_cwSW 6 S.2.2.2.2 gL_refuses_L_act rfl rfl rfl ynL_act ⟨(Nat.le_of_ble_eq_true rfl), (Nat.le_of_ble_eq_true rfl)⟩) (dpS hE hP hS) rfl rfl hl.1 rfl (lv_room (Nat.le_of_ble_eq_true rfl)) dL_refuses_1573 ⟨by omega, by omega⟩) hS (fun H locs hP hS => ?_)
                                  refine lv_ldc2 (v := (-72)) S.1 S.2.1 S.2.2.2.1 (S.2.2.2.2 (.constantLong RL 104 (-72)) (List.mem_of_getElem? (i := 2) rfl)) dL_refuses_1576 ?_
                                  refine W.lcmp S.1 S.2.1 dL_refuses_1579 ?_
                                  refine lv_if_ne (tgt := 1686) S.1 S.2.1 dL_refuses_1580 (by decide) (fun cq => ?_) (fun cq => ?_)
                                  · have h := d_f cq h
                                    cases h
                                  · have h := d_t cq h
                                    refine lv_aload_n S.1 S.2.1 dL_refuses_1583 rfl (lv_at hl 0 rfl) ?_
                                    refine lv_iconst (v := 0) S.1 S.2.1 dL_refuses_1584 (by decide) ?_
                                    refine lv_iload S.1 S.2.1 dL_refuses_1585 (lv_at hl 8 rfl) ?_
                                    refine lv_iconst (v := 1) S.1 S.2.1 dL_refuses_1587 (by decide) ?_
                                    refine W_tern (E := (if w8 = 1 then p4 + 1 else w9 : Int32)) (J := 1600) (rest := [.int 0, .ref (dad g 0)]) (fun v33 ev33 => ?_) (fun JJ => ?_)
                                    · have h := d_let ev33 h
                                      refine lv_iconst (v := 0) S.1 S.2.1 dL_refuses_1600 (by decide) ?_
                                      refine lv_iconst (v := 1) S.1 S.2.1 dL_refuses_1601 (by decide) ?_
                                      refine lv_iconst (v := 0) S.1 S.2.1 dL_refuses_1602 (by decide) ?_
                                      obtain ⟨⟨v36, m35⟩, hc34, h⟩ := d_b h
                                      have h := d_p2 h
                                      refine doLi (vx_runSX (As := [.ref (dad g 0), .int 0, .int v33, .int 0, .int 1, .int 0]) (rest := []) S (kL_toss l g hst hc34) (vx_cwSW 6 S.2.2.2.2 gL_refuses_L_toss rfl rfl rfl ynL_toss ⟨(Nat.le_of_ble_eq_true rfl), (Nat.le_of_ble_eq_true rfl)⟩) (dpS hE hP hS) rfl rfl hl.1 rfl (lv_room (Nat.le_of_ble_eq_true rfl)) dL_refuses_1603 ⟨by omega, by omega⟩) hS (fun H locs hP hS => ?_)
                                      refine lv_bipush (v := (-72)) S.1 S.2.1 dL_refuses_1606 (by decide) ?_
                                      refine lv_icmp_ne (tgt := 1686) S.1 S.2.1 dL_refuses_1608 (by decide) (fun cq => ?_) (fun cq => ?_)
                                      · have h := d_f cq h
                                        cases h
                                      · have h := d_t cq h
                                        refine lv_aload_n S.1 S.2.1 dL_refuses_1611 rfl (lv_at hl 0 rfl) ?_
                                        refine lv_iconst (v := 0) S.1 S.2.1 dL_refuses_1612 (by decide) ?_
                                        refine lv_iconst (v := 0) S.1 S.2.1 dL_refuses_1613 (by decide) ?_
                                        refine lv_iconst (v := 0) S.1 S.2.1 dL_refuses_1614 (by decide) ?_
                                        refine lv_iload S.1 S.2.1 dL_refuses_1615 (lv_at hl 8 rfl) ?_
                                        refine W_tern (E := (if w8 = 0 then 0 else if w8 = 1 then 10 else w9 : Int32)) (J := 1637) (rest := [.int 0, .int 0, .int 0, .ref (dad g 0)]) (fun v37 ev37 => ?_) (fun JJ => ?_)
                                        · have h := d_let ev37 h
                                          refine lv_iconst (v := 0) S.1 S.2.1 dL_refuses_1637 (by decide) ?_
                                          obtain ⟨⟨v40, m39⟩, hc38, h⟩ := d_b h
                                          have h := d_p2 h
                                          refine doLi (vx_runSX (As := [.ref (dad g 0), .int 0, .int 0, .int 0, .int v37, .int 0]) (rest := []) S (kL_toss l g hst hc38) (vx_cwSW 6 S.2.2.2.2 gL_refuses_L_toss rfl rfl rfl ynL_toss ⟨(Nat.le_of_ble_eq_true rfl), (Nat.le_of_ble_eq_true rfl)⟩) (dpS hE hP hS) rfl rfl hl.1 rfl (lv_room (Nat.le_of_ble_eq_true rfl)) dL_refuses_1638 ⟨by omega, by omega⟩) hS (fun H locs hP hS => ?_)
                                          refine lv_bipush (v := (-72)) S.1 S.2.1 dL_refuses_1641 (by decide) ?_
                                          refine lv_icmp_ne (tgt := 1686) S.1 S.2.1 dL_refuses_1643 (by decide) (fun cq => ?_) (fun cq => ?_)
                                          · have h := d_f cq h
                                            cases h
                                          · have h := d_t cq h
                                            refine lv_aload_n S.1 S.2.1 dL_refuses_1646 rfl (lv_at hl 0 rfl) ?_
                                            refine lv_iconst (v := 0) S.1 S.2.1 dL_refuses_1647 (by decide) ?_
                                            refine lv_iconst (v := 0) S.1 S.2.1 dL_refuses_1648 (by decide) ?_
                                            refine lv_iconst (v := 0) S.1 S.2.1 dL_refuses_1649 (by decide) ?_
                                            refine lv_iconst (v := 1) S.1 S.2.1 dL_refuses_1650 (by decide) ?_
                                            refine lv_iload S.1 S.2.1 dL_refuses_1651 (lv_at hl 8 rfl) ?_
                                            refine W_tern (E := (if w8 = 0 then (-21) else if w8 = 1 then 21 else w9 : Int32)) (J := 1674) (rest := [.int 1, .int 0, .int 0, .int 0, .ref (dad g 0)]) (fun v41 ev41 => ?_) (fun JJ => ?_)
                                            · have h := d_let ev41 h
                                              obtain ⟨⟨v44, m43⟩, hc42, h⟩ := d_b h
                                              have h := d_p2 h
                                              refine doLi (vx_runSX (As := [.ref (dad g 0), .int 0, .int 0, .int 0, .int 1, .int v41]) (rest := []) S (kL_toss l g hst hc42) (vx_cwSW 6 S.2.2.2.2 gL_refuses_L_toss rfl rfl rfl ynL_toss ⟨(Nat.le_of_ble_eq_true rfl), (Nat.le_of_ble_eq_true rfl)⟩) (dpS hE hP hS) rfl rfl hl.1 rfl (lv_room (Nat.le_of_ble_eq_true rfl)) dL_refuses_1674 ⟨by omega, by omega⟩) hS (fun H locs hP hS => ?_)
                                              refine lv_bipush (v := (-72)) S.1 S.2.1 dL_refuses_1677 (by decide) ?_
                                              refine lv_icmp_ne (tgt := 1686) S.1 S.2.1 dL_refuses_1679 (by decide) (fun cq => ?_) (fun cq => ?_)
                                              · have h := d_f cq h
                                                cases h
                                              · have h := d_t cq h
                                                refine lv_iconst (v := 1) S.1 S.2.1 dL_refuses_1682 (by decide) ?_
                                                refine lv_goto (tgt := 1687) S.1 S.2.1 dL_refuses_1683 (by decide) ?_
                                                refine lv_istore (lv' := [(13, .int 1), (0, .ref (dad g 0)), (1, .int p1), (2, .int p2), (3, .int p3), (4, .int p4), (5, .int 2147483647), (6, .int w6), (7, .int w7), (8, .int w8), (9, .int w9), (10, .int w10), (11, .int w11), (12, .int w12)]) S.1 S.2.1 dL_refuses_1687 hl (by decide) rfl (fun ls hl => ?_)
                                                refine lv_iload S.1 S.2.1 dL_refuses_1689 (lv_at hl 0 rfl) ?_
                                                refine lv_if_ne (tgt := 1696) S.1 S.2.1 dL_refuses_1691 (by decide) (fun cq => ?_) (fun cq => ?_)
                                                · obtain rfl := Option.some.inj h
                                                  exact kk H locs ls _ _ (by omega) (by omega) hP hS (lv_sub hl [1, 2, 3, 4, 5, 6, 7, 8, 9] rfl)
                                                · exact absurd cq (by decide)
                                            · refine lv_if_ne (tgt := 1661) S.1 S.2.1 dL_refuses_1653 (by decide) (fun cq15 => ?_) (fun cq15 => ?_)
                                              · refine lv_iload S.1 S.2.1 dL_refuses_1661 (lv_at hl 8 rfl) ?_
                                                refine lv_iconst (v := 1) S.1 S.2.1 dL_refuses_1663 (by decide) ?_
                                                refine lv_icmp_ne (tgt := 1672) S.1 S.2.1 dL_refuses_1664 (by decide) (fun cq16 => ?_) (fun cq16 => ?_)
                                                · refine lv_iload S.1 S.2.1 dL_refuses_1672 (lv_at hl 9 rfl) ?_
                                                  exact JJ _ (by rw [if_neg cq15, if_neg cq16])
                                                · refine lv_bipush (v := 21) S.1 S.2.1 dL_refuses_1667 (by decide) ?_
                                                  refine lv_goto (tgt := 1674) S.1 S.2.1 dL_refuses_1669 (by decide) ?_
                                                  exact JJ _ (by rw [if_neg cq15, if_pos cq16])
                                              · refine lv_bipush (v := (-21)) S.1 S.2.1 dL_refuses_1656 (by decide) ?_
                                                refine lv_goto (tgt := 1674) S.1 S.2.1 dL_refuses_1658 (by decide) ?_
                                                exact JJ _ (by rw [if_pos cq15])
                                        · refine lv_if_ne (tgt := 1624) S.1 S.2.1 dL_refuses_1617 (by decide) (fun cq13 => ?_) (fun cq13 => ?_)
                                          · refine lv_iload S.1 S.2.1 dL_refuses_1624 (lv_at hl 8 rfl) ?_
                                            refine lv_iconst (v := 1) S.1 S.2.1 dL_refuses_1626 (by decide) ?_
                                            refine lv_icmp_ne (tgt := 1635) S.1 S.2.1 dL_refuses_1627 (by decide) (fun cq14 => ?_) (fun cq14 => ?_)
                                            · refine lv_iload S.1 S.2.1 dL_refuses_1635 (lv_at hl 9 rfl) ?_
                                              exact JJ _ (by rw [if_neg cq13, if_neg cq14])
                                            · refine lv_bipush (v := 10) S.1 S.2.1 dL_refuses_1630 (by decide) ?_
                                              refine lv_goto (tgt := 1637) S.1 S.2.1 dL_refuses_1632 (by decide) ?_
                                              exact JJ _ (by rw [if_neg cq13, if_pos cq14])
                                          · refine lv_iconst (v := 0) S.1 S.2.1 dL_refuses_1620 (by decide) ?_
                                            refine lv_goto (tgt := 1637) S.1 S.2.1 dL_refuses_1621 (by decide) ?_
                                            exact JJ _ (by rw [if_pos cq13])
                                    · refine lv_icmp_ne (tgt := 1598) S.1 S.2.1 dL_refuses_1588 (by decide) (fun cq12 => ?_) (fun cq12 => ?_)
                                      · refine lv_iload S.1 S.2.1 dL_refuses_1598 (lv_at hl 9 rfl) ?_
                                        exact JJ _ (by rw [if_neg cq12])
                                      · refine lv_iload S.1 S.2.1 dL_refuses_1591 (lv_at hl 4 rfl) ?_
                                        refine lv_iconst (v := 1) S.1 S.2.1 dL_refuses_1593 (by decide) ?_
                                        refine lv_iadd S.1 S.2.1 dL_refuses_1594 ?_
                                        refine lv_goto (tgt := 1600) S.1 S.2.1 dL_refuses_1595 (by decide) ?_
                                        exact JJ _ (by rw [if_pos cq12])
                                · refine lv_icmp_ne (tgt := 1570) S.1 S.2.1 dL_refuses_1563 (by decide) (fun cq11 => ?_) (fun cq11 => ?_)
                                  · refine lv_iload S.1 S.2.1 dL_refuses_1570 (lv_at hl 9 rfl) ?_
                                    exact JJ _ (by rw [if_neg cq11])
                                  · refine lv_iconst (v := 4) S.1 S.2.1 dL_refuses_1566 (by decide) ?_
                                    refine lv_goto (tgt := 1572) S.1 S.2.1 dL_refuses_1567 (by decide) ?_
                                    exact JJ _ (by rw [if_pos cq11])
                            · refine lv_if_ne (tgt := 1531) S.1 S.2.1 dL_refuses_1524 (by decide) (fun cq9 => ?_) (fun cq9 => ?_)
                              · refine lv_iload S.1 S.2.1 dL_refuses_1531 (lv_at hl 8 rfl) ?_
                                refine lv_iconst (v := 1) S.1 S.2.1 dL_refuses_1533 (by decide) ?_
                                refine lv_icmp_ne (tgt := 1543) S.1 S.2.1 dL_refuses_1534 (by decide) (fun cq10 => ?_) (fun cq10 => ?_)
                                · refine lv_iload S.1 S.2.1 dL_refuses_1543 (lv_at hl 9 rfl) ?_
                                  exact JJ _ (by rw [if_neg cq9, if_neg cq10])
                                · refine lv_sipush (v := (-1001)) S.1 S.2.1 dL_refuses_1537 (by decide) ?_
                                  refine lv_goto (tgt := 1545) S.1 S.2.1 dL_refuses_1540 (by decide) ?_
                                  exact JJ _ (by rw [if_neg cq9, if_pos cq10])
                              · refine lv_iconst (v := 0) S.1 S.2.1 dL_refuses_1527 (by decide) ?_
                                refine lv_goto (tgt := 1545) S.1 S.2.1 dL_refuses_1528 (by decide) ?_
                                exact JJ _ (by rw [if_pos cq9])
                        · refine lv_icmp_ne (tgt := 1503) S.1 S.2.1 dL_refuses_1494 (by decide) (fun cq8 => ?_) (fun cq8 => ?_)
                          · refine lv_iload S.1 S.2.1 dL_refuses_1503 (lv_at hl 9 rfl) ?_
                            exact JJ _ (by rw [if_neg cq8])
                          · refine lv_sipush (v := 1601) S.1 S.2.1 dL_refuses_1497 (by decide) ?_
                            refine lv_goto (tgt := 1505) S.1 S.2.1 dL_refuses_1500 (by decide) ?_
                            exact JJ _ (by rw [if_pos cq8])
                    · refine lv_icmp_ne (tgt := 1472) S.1 S.2.1 dL_refuses_1462 (by decide) (fun cq7 => ?_) (fun cq7 => ?_)
                      · refine lv_iload S.1 S.2.1 dL_refuses_1472 (lv_at hl 9 rfl) ?_
                        exact JJ _ (by rw [if_neg cq7])
                      · refine lv_iload S.1 S.2.1 dL_refuses_1465 (lv_at hl 4 rfl) ?_
                        refine lv_iconst (v := 1) S.1 S.2.1 dL_refuses_1467 (by decide) ?_
                        refine lv_iadd S.1 S.2.1 dL_refuses_1468 ?_
                        refine lv_goto (tgt := 1474) S.1 S.2.1 dL_refuses_1469 (by decide) ?_
                        exact JJ _ (by rw [if_pos cq7])
                · refine lv_icmp_ne (tgt := 1441) S.1 S.2.1 dL_refuses_1434 (by decide) (fun cq6 => ?_) (fun cq6 => ?_)
                  · refine lv_iload S.1 S.2.1 dL_refuses_1441 (lv_at hl 9 rfl) ?_
                    exact JJ _ (by rw [if_neg cq6])
                  · refine lv_iconst (v := 4) S.1 S.2.1 dL_refuses_1437 (by decide) ?_
                    refine lv_goto (tgt := 1443) S.1 S.2.1 dL_refuses_1438 (by decide) ?_
                    exact JJ _ (by rw [if_pos cq6])
            · refine lv_icmp_ne (tgt := 1413) S.1 S.2.1 dL_refuses_1403 (by decide) (fun cq5 => ?_) (fun cq5 => ?_)
              · refine lv_iload S.1 S.2.1 dL_refuses_1413 (lv_at hl 9 rfl) ?_
                exact JJ _ (by rw [if_neg cq5])
              · refine lv_iload S.1 S.2.1 dL_refuses_1406 (lv_at hl 4 rfl) ?_
                refine lv_iconst (v := 1) S.1 S.2.1 dL_refuses_1408 (by decide) ?_
                refine lv_iadd S.1 S.2.1 dL_refuses_1409 ?_
                refine lv_goto (tgt := 1415) S.1 S.2.1 dL_refuses_1410 (by decide) ?_
                exact JJ _ (by rw [if_pos cq5])
        · refine lv_if_ne (tgt := 1372) S.1 S.2.1 dL_refuses_1364 (by decide) (fun cq3 => ?_) (fun cq3 => ?_)
          · refine lv_iload S.1 S.2.1 dL_refuses_1372 (lv_at hl 8 rfl) ?_
            refine lv_iconst (v := 1) S.1 S.2.1 dL_refuses_1374 (by decide) ?_
            refine lv_icmp_ne (tgt := 1384) S.1 S.2.1 dL_refuses_1375 (by decide) (fun cq4 => ?_) (fun cq4 => ?_)
            · refine lv_iload S.1 S.2.1 dL_refuses_1384 (lv_at hl 9 rfl) ?_
              exact JJ _ (by rw [if_neg cq3, if_neg cq4])
            · refine lv_sipush (v := 241) S.1 S.2.1 dL_refuses_1378 (by decide) ?_
              refine lv_goto (tgt := 1386) S.1 S.2.1 dL_refuses_1381 (by decide) ?_
              exact JJ _ (by rw [if_neg cq3, if_pos cq4])
          · refine lv_bipush (v := 59) S.1 S.2.1 dL_refuses_1367 (by decide) ?_
            refine lv_goto (tgt := 1386) S.1 S.2.1 dL_refuses_1369 (by decide) ?_
            exact JJ _ (by rw [if_pos cq3])
    · refine lv_if_ne (tgt := 1331) S.1 S.2.1 dL_refuses_1324 (by decide) (fun cq1 => ?_) (fun cq1 => ?_)
      · refine lv_iload S.1 S.2.1 dL_refuses_1331 (lv_at hl 8 rfl) ?_
        refine lv_iconst (v := 1) S.1 S.2.1 dL_refuses_1333 (by decide) ?_
        refine lv_icmp_ne (tgt := 1342) S.1 S.2.1 dL_refuses_1334 (by decide) (fun cq2 => ?_) (fun cq2 => ?_)
        · refine lv_iload S.1 S.2.1 dL_refuses_1342 (lv_at hl 9 rfl) ?_
          exact JJ _ (by rw [if_neg cq1, if_neg cq2])
        · refine lv_bipush (v := 65) S.1 S.2.1 dL_refuses_1337 (by decide) ?_
          refine lv_goto (tgt := 1344) S.1 S.2.1 dL_refuses_1339 (by decide) ?_
          exact JJ _ (by rw [if_neg cq1, if_pos cq2])
      · refine lv_iconst (v := 0) S.1 S.2.1 dL_refuses_1327 (by decide) ?_
        refine lv_goto (tgt := 1344) S.1 S.2.1 dL_refuses_1328 (by decide) ?_
        exact JJ _ (by rw [if_pos cq1])
def fL_refB (m : dM) (p1 : Int32) (p2 : Int32) (p3 : Int32) (p4 : Int32) (w8 : Int32) : Option dM := dlet (if w8 = 0 then (-1) else if w8 = 2 then 2147483647 else (-2147483647) - 1 : Int32) (fun v1 => dlet (if w8 = 1 then p1 else v1 : Int32) (fun v2 => dlet (if w8 = 1 then p2 else v1 : Int32) (fun v3 => dlet (if w8 = 1 then p3 else v1 : Int32) (fun v4 => (fL_ref94 m p1 p2 p3 p4 w8 v1 v2 v3 v4).bind (fun m5 => (fL_ref256 m5 p1 p2 p3 p4 w8 v1 v2 v3 v4).bind (fun m9 => (fL_ref401 m9 p1 p2 p3 p4 w8 v1 v2 v3 v4).bind (fun m13 => (fL_ref535 m13 p1 p2 p3 p4 w8 v1 v2 v3 v4).bind (fun m17 => (fL_ref632 m17 p1 p2 p3 p4 w8 v1 v2 v3 v4).bind (fun m21 => (fL_ref783 m21 p1 p2 p3 p4 w8 v1 v2 v3 v4).bind (fun m25 => (fL_ref929 m25 p1 p2 p3 p4 w8 v1 v2 v3 v4).bind (fun m29 => (fL_ref1075 m29 p1 p2 p3 p4 w8 v1 v2 v3 v4).bind (fun m33 => (fL_ref1209 m33 p1 p2 p3 p4 w8 v1 v2 v3 v4).bind (fun m37 => (fL_ref1313 m37 p1 p2 p3 p4 w8 v1 v2 v3 v4).bind (fun m41 => some m41))))))))))))))
set_option maxHeartbeats 4000000 in
set_option maxRecDepth 100000 in
theorem kL_refB {p : Program} {l : Launch} {e : Env} {s : State} {mth : MethodId} {below : List Frame} {meth : Method} {c : Code} {g : dG} {Q : State → Prop} {H : Heap} {cells slots : Nat} {ls : Array Slot} {m m9 : dM} {p1 : Int32} {p2 : Int32} {p3 : Int32} {p4 : Int32} {w8 : Int32} {w6 : Int32} {w7 : Int32} {locs : List Loc} (hst : l.stackTraces = false) (S : CallFix p mth c cL_refuses 14 s (([.ref (dad g 0), .int p1, .int p2, .int p3, .int p4] : List Value).toArray) wsL_refuses RL) (hE : dEnv g s) (hR : cells + 234 ≤ (headSpec wsL_refuses (dXm 11 216 936)).room.cells ∧ slots + 1404 ≤ (headSpec wsL_refuses (dXm 11 216 936)).room.slots) (h : fL_refB m p1 p2 p3 p4 w8 = some m9) (hP : va_P g.1 vwCl (dws g m) H) (hS : va_S (dA g) s.heap H locs) (hl : lv_has ls 14 [(0, .ref (dad g 0)), (1, .int p1), (2, .int p2), (3, .int p3), (4, .int p4), (5, .int 2147483647), (6, .int w6), (7, .int w7), (8, .int w8)])
    (kk : ∀ (H : Heap) (locs : List Loc) (ls : Array Slot) (cells2 slots2 : Nat), cells2 ≤ cells + 234 → slots2 ≤ slots + 1404 → va_P g.1 vwCl (dws g m9) H → va_S (dA g) s.heap H locs → lv_has ls 14 [(0, .ref (dad g 0)), (1, .int p1), (2, .int p2), (3, .int p3), (4, .int p4), (5, .int 2147483647), (6, .int w6), (7, .int w7), (8, .int w8)] → W p l e (headSpec wsL_refuses (dXm 11 216 936)).room s mth (([.ref (dad g 0), .int p1, .int p2, .int p3, .int p4] : List Value).toArray) below meth c H locs cells2 slots2 Q (F0 mth 1696 ls [])) : W p l e (headSpec wsL_refuses (dXm 11 216 936)).room s mth (([.ref (dad g 0), .int p1, .int p2, .int p3, .int p4] : List Value).toArray) below meth c H locs cells slots Q (F0 mth 25 ls []) := by
  obtain ⟨hR1, hR2⟩ := hR
  unfold fL_refB at h
  refine lv_iload S.1 S.2.1 dL_refuses_25 (lv_at hl 8 rfl) ?_
  refine W_tern (E := (if w8 = 0 then (-1) else if w8 = 2 then 2147483647 else (-2147483647) - 1 : Int32)) (J := 50) (rest := []) (fun v1 ev1 => ?_) (fun JJ => ?_)
  · have h := d_let ev1 h
    refine lv_istore (lv' := [(9, .int v1), (0, .ref (dad g 0)), (1, .int p1), (2, .int p2), (3, .int p3), (4, .int p4), (5, .int 2147483647), (6, .int w6), (7, .int w7), (8, .int w8)]) S.1 S.2.1 dL_refuses_50 hl (by decide) rfl (fun ls hl => ?_)
    refine lv_iload S.1 S.2.1 dL_refuses_52 (lv_at hl 9 rfl) ?_
    refine lv_iconst (v := 1) S.1 S.2.1 dL_refuses_54 (by decide) ?_
    refine W_tern (E := (if w8 = 1 then p1 else v1 : Int32)) (J := 64) (rest := []) (fun v2 ev2 => ?_) (fun JJ => ?_)
    · have h := d_let ev2 h
      refine lv_istore (lv' := [(10, .int v2), (9, .int v1), (0, .ref (dad g 0)), (1, .int p1), (2, .int p2), (3, .int p3), (4, .int p4), (5, .int 2147483647), (6, .int w6), (7, .int w7), (8, .int w8)]) S.1 S.2.1 dL_refuses_64 hl (by decide) rfl (fun ls hl => ?_)
      refine lv_iload S.1 S.2.1 dL_refuses_66 (lv_at hl 10 rfl) ?_
      refine lv_iconst (v := 1) S.1 S.2.1 dL_refuses_68 (by decide) ?_
      refine W_tern (E := (if w8 = 1 then p2 else v1 : Int32)) (J := 78) (rest := []) (fun v3 ev3 => ?_) (fun JJ => ?_)
      · have h := d_let ev3 h
        refine lv_istore (lv' := [(11, .int v3), (10, .int v2), (9, .int v1), (0, .ref (dad g 0)), (1, .int p1), (2, .int p2), (3, .int p3), (4, .int p4), (5, .int 2147483647), (6, .int w6), (7, .int w7), (8, .int w8)]) S.1 S.2.1 dL_refuses_78 hl (by decide) rfl (fun ls hl => ?_)
        refine lv_iload S.1 S.2.1 dL_refuses_80 (lv_at hl 11 rfl) ?_
        refine lv_iconst (v := 1) S.1 S.2.1 dL_refuses_82 (by decide) ?_
        refine W_tern (E := (if w8 = 1 then p3 else v1 : Int32)) (J := 92) (rest := []) (fun v4 ev4 => ?_) (fun JJ => ?_)
        · have h := d_let ev4 h
          refine lv_istore (lv' := [(12, .int v4), (11, .int v3), (10, .int v2), (9, .int v1), (0, .ref (dad g 0)), (1, .int p1), (2, .int p2), (3, .int p3), (4, .int p4), (5, .int 2147483647), (6, .int w6), (7, .int w7), (8, .int w8)]) S.1 S.2.1 dL_refuses_92 hl (by decide) rfl (fun ls hl => ?_)
          obtain ⟨m5, hm6, h⟩ := d_b h
          refine kL_ref94 hst S hE ⟨by omega, by omega⟩ hm6 hP hS (lv_sub hl [4, 5, 6, 7, 8, 9, 10, 11, 12, 3, 2, 1, 0] rfl) (fun H locs ls cl7 sl8 hccl7 hssl8 hP hS hl => ?_)
          obtain ⟨m9, hm10, h⟩ := d_b h
          refine kL_ref256 hst S hE ⟨by omega, by omega⟩ hm10 hP hS (lv_sub hl [0, 1, 2, 3, 4, 5, 6, 7, 8, 9, 10, 11, 12] rfl) (fun H locs ls cl11 sl12 hccl11 hssl12 hP hS hl => ?_)
          obtain ⟨m13, hm14, h⟩ := d_b h
          refine kL_ref401 hst S hE ⟨by omega, by omega⟩ hm14 hP hS (lv_sub hl [0, 1, 2, 3, 4, 5, 6, 7, 8, 9, 10, 11, 12] rfl) (fun H locs ls cl15 sl16 hccl15 hssl16 hP hS hl => ?_)
          obtain ⟨m17, hm18, h⟩ := d_b h
          refine kL_ref535 hst S hE ⟨by omega, by omega⟩ hm18 hP hS (lv_sub hl [0, 1, 2, 3, 4, 5, 6, 7, 8, 9, 10, 11, 12] rfl) (fun H locs ls cl19 sl20 hccl19 hssl20 hP hS hl => ?_)
          obtain ⟨m21, hm22, h⟩ := d_b h
          refine kL_ref632 hst S hE ⟨by omega, by omega⟩ hm22 hP hS (lv_sub hl [0, 1, 2, 3, 4, 5, 6, 7, 8, 9, 10, 11, 12, 13] rfl) (fun H locs ls cl23 sl24 hccl23 hssl24 hP hS hl => ?_)
          obtain ⟨m25, hm26, h⟩ := d_b h
          refine kL_ref783 hst S hE ⟨by omega, by omega⟩ hm26 hP hS (lv_sub hl [0, 1, 2, 3, 4, 5, 6, 7, 8, 9, 10, 11, 12, 13] rfl) (fun H locs ls cl27 sl28 hccl27 hssl28 hP hS hl => ?_)
          obtain ⟨m29, hm30, h⟩ := d_b h
          refine kL_ref929 hst S hE ⟨by omega, by omega⟩ hm30 hP hS (lv_sub hl [0, 1, 2, 3, 4, 5, 6, 7, 8, 9, 10, 11, 12, 13] rfl) (fun H locs ls cl31 sl32 hccl31 hssl32 hP hS hl => ?_)
          obtain ⟨m33, hm34, h⟩ := d_b h
          refine kL_ref1075 hst S hE ⟨by omega, by omega⟩ hm34 hP hS (lv_sub hl [0, 1, 2, 3, 4, 5, 6, 7, 8, 9, 10, 11, 12, 13] rfl) (fun H locs ls cl35 sl36 hccl35 hssl36 hP hS hl => ?_)
          obtain ⟨m37, hm38, h⟩ := d_b h
          refine kL_ref1209 hst S hE ⟨by omega, by omega⟩ hm38 hP hS (lv_sub hl [0, 1, 2, 3, 4, 5, 6, 7, 8, 9, 10, 11, 12, 13] rfl) (fun H locs ls cl39 sl40 hccl39 hssl40 hP hS hl => ?_)
          obtain ⟨m41, hm42, h⟩ := d_b h
          refine kL_ref1313 hst S hE ⟨by omega, by omega⟩ hm42 hP hS (lv_sub hl [0, 1, 2, 3, 4, 5, 6, 7, 8, 9, 10, 11, 12, 13] rfl) (fun H locs ls cl43 sl44 hccl43 hssl44 hP hS hl => ?_)
          obtain rfl := Option.some.inj h
          exact kk H locs ls _ _ (by omega) (by omega) hP hS (lv_sub hl [0, 1, 2, 3, 4, 5, 6, 7, 8] rfl)
        · refine lv_icmp_ne (tgt := 90) S.1 S.2.1 dL_refuses_83 (by decide) (fun cq5 => ?_) (fun cq5 => ?_)
          · refine lv_iload S.1 S.2.1 dL_refuses_90 (lv_at hl 2 rfl) ?_
            exact JJ _ (by rw [if_neg cq5])
          · refine lv_iload_n S.1 S.2.1 dL_refuses_86 rfl (lv_at hl 6 rfl) ?_
            refine lv_goto (tgt := 92) S.1 S.2.1 dL_refuses_87 (by decide) ?_
            exact JJ _ (by rw [if_pos cq5])
      · refine lv_icmp_ne (tgt := 76) S.1 S.2.1 dL_refuses_69 (by decide) (fun cq4 => ?_) (fun cq4 => ?_)
        · refine lv_iload S.1 S.2.1 dL_refuses_76 (lv_at hl 1 rfl) ?_
          exact JJ _ (by rw [if_neg cq4])
        · refine lv_iload_n S.1 S.2.1 dL_refuses_72 rfl (lv_at hl 4 rfl) ?_
          refine lv_goto (tgt := 78) S.1 S.2.1 dL_refuses_73 (by decide) ?_
          exact JJ _ (by rw [if_pos cq4])
    · refine lv_icmp_ne (tgt := 62) S.1 S.2.1 dL_refuses_55 (by decide) (fun cq3 => ?_) (fun cq3 => ?_)
      · refine lv_iload S.1 S.2.1 dL_refuses_62 (lv_at hl 0 rfl) ?_
        exact JJ _ (by rw [if_neg cq3])
      · refine lv_iload_n S.1 S.2.1 dL_refuses_58 rfl (lv_at hl 2 rfl) ?_
        refine lv_goto (tgt := 64) S.1 S.2.1 dL_refuses_59 (by decide) ?_
        exact JJ _ (by rw [if_pos cq3])
  · refine lv_if_ne (tgt := 34) S.1 S.2.1 dL_refuses_27 (by decide) (fun cq1 => ?_) (fun cq1 => ?_)
    · refine lv_iload S.1 S.2.1 dL_refuses_34 (lv_at hl 8 rfl) ?_
      refine lv_iconst (v := 2) S.1 S.2.1 dL_refuses_36 (by decide) ?_
      refine lv_icmp_ne (tgt := 45) S.1 S.2.1 dL_refuses_37 (by decide) (fun cq2 => ?_) (fun cq2 => ?_)
      · refine lv_iload S.1 S.2.1 dL_refuses_45 (lv_at hl 5 rfl) ?_
        refine lv_ineg S.1 S.2.1 dL_refuses_47 ?_
        refine lv_iconst (v := 1) S.1 S.2.1 dL_refuses_48 (by decide) ?_
        refine lv_isub S.1 S.2.1 dL_refuses_49 ?_
        exact JJ _ (by rw [if_neg cq1, if_neg cq2])
      · refine lv_iload S.1 S.2.1 dL_refuses_40 (lv_at hl 5 rfl) ?_
        refine lv_goto (tgt := 50) S.1 S.2.1 dL_refuses_42 (by decide) ?_
        exact JJ _ (by rw [if_neg cq1, if_pos cq2])
    · refine lv_iconst (v := (-1)) S.1 S.2.1 dL_refuses_30 (by decide) ?_
      refine lv_goto (tgt := 50) S.1 S.2.1 dL_refuses_31 (by decide) ?_
      exact JJ _ (by rw [if_pos cq1])
def fL_refuses (m : dM) (p1 : Int32) (p2 : Int32) (p3 : Int32) (p4 : Int32) : Option dM := (fX11_lasts m 0).bind (fun v3 => (fX11_changed m 0).bind (fun v6 => (fL_refB m p1 p2 p3 p4 0).bind (fun m7 => (fL_refB m7 p1 p2 p3 p4 1).bind (fun m11 => (fL_refB m11 p1 p2 p3 p4 2).bind (fun m15 => (fL_refB m15 p1 p2 p3 p4 3).bind (fun m19 => (fX11_lasts m19 0).bind (fun v25 => if v25 = v3 then (fX11_changed m19 0).bind (fun v28 => if v28 = v6 then some m19 else none) else none)))))))
set_option maxHeartbeats 4000000 in
set_option maxRecDepth 100000 in
theorem kL_refuses (l : Launch) (g : dG) (hst : l.stackTraces = false) {m : dM} {p1 : Int32} {p2 : Int32} {p3 : Int32} {p4 : Int32} {m0 : dM} (h : fL_refuses m p1 p2 p3 p4 = some m0) : dLMet l g yL_refuses wsL_refuses 11 216 936 [.ref (dad g 0), .int p1, .int p2, .int p3, .int p4] m 1 m0 := by
  refine dPof (cc := cL_refuses) (maxL := 14) (ret := (some .boolean)) _ (by decide) rfl (Nat.le_of_ble_eq_true rfl) ?_
  intro p e s mth below meth c S hr hlk hE H ls hP hS hl
  have S : CallFix p mth c cL_refuses 14 s (([.ref (dad g 0), .int p1, .int p2, .int p3, .int p4] : List Value).toArray) wsL_refuses RL := S
  have hl : lv_has ls 14 [(0, .ref (dad g 0)), (1, .int p1), (2, .int p2), (3, .int p3), (4, .int p4)] := hl
  obtain ⟨locs, hlocs⟩ : ∃ z : List Loc, z = [] := ⟨_, rfl⟩
  rw [← hlocs] at hS ⊢
  have hR1 : 0 + 936 ≤ (headSpec wsL_refuses (dXm 11 216 936)).room.cells := (Nat.le_of_ble_eq_true rfl)
  have hR2 : 0 + 5616 ≤ (headSpec wsL_refuses (dXm 11 216 936)).room.slots := (Nat.le_of_ble_eq_true rfl)
  unfold fL_refuses at h
  refine lv_ldc (v := 2147483647) S.1 S.2.1 S.2.2.2.1 (S.2.2.2.2 (.constant RL 114 (2147483647)) (List.mem_of_getElem? (i := 1) rfl)) dL_refuses_0 ?_
  refine lv_istore (lv' := [(5, .int 2147483647), (0, .ref (dad g 0)), (1, .int p1), (2, .int p2), (3, .int p3), (4, .int p4)]) S.1 S.2.1 dL_refuses_2 hl (by decide) rfl (fun ls hl => ?_)
  refine lv_aload_n S.1 S.2.1 dL_refuses_4 rfl (lv_at hl 1 rfl) ?_
  obtain ⟨v3, hc1, h⟩ := d_b h
  refine dri (va_runV (As := []) (rest := []) S (kX11_lasts l g hc1) (cwV 0 S.2.2.2.2 gL_refuses_X11_lasts rfl rfl rfl ynX11_lasts ⟨(Nat.le_of_ble_eq_true rfl), (Nat.le_of_ble_eq_true rfl)⟩) (dpV hE hP hS (ci := 11) rfl (dat12 dk_0)) rfl rfl hl.1 rfl (lv_room (Nat.le_of_ble_eq_true rfl)) dL_refuses_5 ⟨by omega, by omega⟩) hS (fun H locs hP hS => ?_)
  refine lv_istore (lv' := [(6, .int v3), (5, .int 2147483647), (0, .ref (dad g 0)), (1, .int p1), (2, .int p2), (3, .int p3), (4, .int p4)]) S.1 S.2.1 dL_refuses_8 hl (by decide) rfl (fun ls hl => ?_)
  refine lv_aload_n S.1 S.2.1 dL_refuses_10 rfl (lv_at hl 2 rfl) ?_
  obtain ⟨v6, hc4, h⟩ := d_b h
  refine dri (va_runV (As := []) (rest := []) S (kX11_changed l g hc4) (cwV 0 S.2.2.2.2 gL_refuses_X11_changed rfl rfl rfl ynX11_changed ⟨(Nat.le_of_ble_eq_true rfl), (Nat.le_of_ble_eq_true rfl)⟩) (dpV hE hP hS (ci := 11) rfl (dat12 dk_0)) rfl rfl hl.1 rfl (lv_room (Nat.le_of_ble_eq_true rfl)) dL_refuses_11 ⟨by omega, by omega⟩) hS (fun H locs hP hS => ?_)
  refine lv_istore (lv' := [(7, .int v6), (6, .int v3), (5, .int 2147483647), (0, .ref (dad g 0)), (1, .int p1), (2, .int p2), (3, .int p3), (4, .int p4)]) S.1 S.2.1 dL_refuses_14 hl (by decide) rfl (fun ls hl => ?_)
  refine lv_iconst (v := 0) S.1 S.2.1 dL_refuses_16 (by decide) ?_
  refine lv_istore (lv' := [(8, .int 0), (7, .int v6), (6, .int v3), (5, .int 2147483647), (0, .ref (dad g 0)), (1, .int p1), (2, .int p2), (3, .int p3), (4, .int p4)]) S.1 S.2.1 dL_refuses_17 hl (by decide) rfl (fun ls hl => ?_)
  refine lv_iload S.1 S.2.1 dL_refuses_19 (lv_at hl 0 rfl) ?_
  refine lv_iconst (v := 4) S.1 S.2.1 dL_refuses_21 (by decide) ?_
  refine lv_icmp_ge (tgt := 1702) S.1 S.2.1 dL_refuses_22 (by decide) (fun cq => ?_) (fun cq => ?_)
  · exact absurd cq (by decide)
  · obtain ⟨m7, hm8, h⟩ := d_b h
    refine kL_refB hst S hE ⟨by omega, by omega⟩ hm8 hP hS (lv_sub hl [4, 5, 6, 7, 8, 3, 2, 1, 0] rfl) (fun H locs ls cl9 sl10 hccl9 hssl10 hP hS hl => ?_)
    refine lv_iinc (v := 1) (lv' := [(8, .int 1), (0, .ref (dad g 0)), (1, .int p1), (2, .int p2), (3, .int p3), (4, .int p4), (5, .int 2147483647), (6, .int v3), (7, .int v6)]) S.1 S.2.1 dL_refuses_1696 hl (k := 8) rfl (by decide) (by decide) rfl (fun ls hl => ?_)
    refine lv_goto (tgt := 19) S.1 S.2.1 dL_refuses_1699 (by decide) ?_
    refine lv_iload S.1 S.2.1 dL_refuses_19 (lv_at hl 0 rfl) ?_
    refine lv_iconst (v := 4) S.1 S.2.1 dL_refuses_21 (by decide) ?_
    refine lv_icmp_ge (tgt := 1702) S.1 S.2.1 dL_refuses_22 (by decide) (fun cq => ?_) (fun cq => ?_)
    · exact absurd cq (by decide)
    · obtain ⟨m11, hm12, h⟩ := d_b h
      refine kL_refB hst S hE ⟨by omega, by omega⟩ hm12 hP hS (lv_sub hl [1, 2, 3, 4, 5, 6, 7, 8, 0] rfl) (fun H locs ls cl13 sl14 hccl13 hssl14 hP hS hl => ?_)
      refine lv_iinc (v := 2) (lv' := [(8, .int 2), (0, .ref (dad g 0)), (1, .int p1), (2, .int p2), (3, .int p3), (4, .int p4), (5, .int 2147483647), (6, .int v3), (7, .int v6)]) S.1 S.2.1 dL_refuses_1696 hl (k := 8) rfl (by decide) (by decide) rfl (fun ls hl => ?_)
      refine lv_goto (tgt := 19) S.1 S.2.1 dL_refuses_1699 (by decide) ?_
      refine lv_iload S.1 S.2.1 dL_refuses_19 (lv_at hl 0 rfl) ?_
      refine lv_iconst (v := 4) S.1 S.2.1 dL_refuses_21 (by decide) ?_
      refine lv_icmp_ge (tgt := 1702) S.1 S.2.1 dL_refuses_22 (by decide) (fun cq => ?_) (fun cq => ?_)
      · exact absurd cq (by decide)
      · obtain ⟨m15, hm16, h⟩ := d_b h
        refine kL_refB hst S hE ⟨by omega, by omega⟩ hm16 hP hS (lv_sub hl [1, 2, 3, 4, 5, 6, 7, 8, 0] rfl) (fun H locs ls cl17 sl18 hccl17 hssl18 hP hS hl => ?_)
        refine lv_iinc (v := 3) (lv' := [(8, .int 3), (0, .ref (dad g 0)), (1, .int p1), (2, .int p2), (3, .int p3), (4, .int p4), (5, .int 2147483647), (6, .int v3), (7, .int v6)]) S.1 S.2.1 dL_refuses_1696 hl (k := 8) rfl (by decide) (by decide) rfl (fun ls hl => ?_)
        refine lv_goto (tgt := 19) S.1 S.2.1 dL_refuses_1699 (by decide) ?_
        refine lv_iload S.1 S.2.1 dL_refuses_19 (lv_at hl 0 rfl) ?_
        refine lv_iconst (v := 4) S.1 S.2.1 dL_refuses_21 (by decide) ?_
        refine lv_icmp_ge (tgt := 1702) S.1 S.2.1 dL_refuses_22 (by decide) (fun cq => ?_) (fun cq => ?_)
        · exact absurd cq (by decide)
        · obtain ⟨m19, hm20, h⟩ := d_b h
          refine kL_refB hst S hE ⟨by omega, by omega⟩ hm20 hP hS (lv_sub hl [1, 2, 3, 4, 5, 6, 7, 8, 0] rfl) (fun H locs ls cl21 sl22 hccl21 hssl22 hP hS hl => ?_)
          refine lv_iinc (v := 4) (lv' := [(8, .int 4), (0, .ref (dad g 0)), (1, .int p1), (2, .int p2), (3, .int p3), (4, .int p4), (5, .int 2147483647), (6, .int v3), (7, .int v6)]) S.1 S.2.1 dL_refuses_1696 hl (k := 8) rfl (by decide) (by decide) rfl (fun ls hl => ?_)
          refine lv_goto (tgt := 19) S.1 S.2.1 dL_refuses_1699 (by decide) ?_
          refine lv_iload S.1 S.2.1 dL_refuses_19 (lv_at hl 0 rfl) ?_
          refine lv_iconst (v := 4) S.1 S.2.1 dL_refuses_21 (by decide) ?_
          refine lv_icmp_ge (tgt := 1702) S.1 S.2.1 dL_refuses_22 (by decide) (fun cq => ?_) (fun cq => ?_)
          · refine lv_aload_n S.1 S.2.1 dL_refuses_1702 rfl (lv_at hl 1 rfl) ?_
            obtain ⟨v25, hc23, h⟩ := d_b h
            refine dri (va_runV (As := []) (rest := []) S (kX11_lasts l g hc23) (cwV 0 S.2.2.2.2 gL_refuses_X11_lasts rfl rfl rfl ynX11_lasts ⟨(Nat.le_of_ble_eq_true rfl), (Nat.le_of_ble_eq_true rfl)⟩) (dpV hE hP hS (ci := 11) rfl (dat12 dk_0)) rfl rfl hl.1 rfl (lv_room (Nat.le_of_ble_eq_true rfl)) dL_refuses_1703 ⟨by omega, by omega⟩) hS (fun H locs hP hS => ?_)
            refine lv_iload S.1 S.2.1 dL_refuses_1706 (lv_at hl 7 rfl) ?_
            refine lv_icmp_ne (tgt := 1724) S.1 S.2.1 dL_refuses_1708 (by decide) (fun cq => ?_) (fun cq => ?_)
            · have h := d_f cq h
              cases h
            · have h := d_t cq h
              refine lv_aload_n S.1 S.2.1 dL_refuses_1711 rfl (lv_at hl 1 rfl) ?_
              obtain ⟨v28, hc26, h⟩ := d_b h
              refine dri (va_runV (As := []) (rest := []) S (kX11_changed l g hc26) (cwV 0 S.2.2.2.2 gL_refuses_X11_changed rfl rfl rfl ynX11_changed ⟨(Nat.le_of_ble_eq_true rfl), (Nat.le_of_ble_eq_true rfl)⟩) (dpV hE hP hS (ci := 11) rfl (dat12 dk_0)) rfl rfl hl.1 rfl (lv_room (Nat.le_of_ble_eq_true rfl)) dL_refuses_1712 ⟨by omega, by omega⟩) hS (fun H locs hP hS => ?_)
              refine lv_iload S.1 S.2.1 dL_refuses_1715 (lv_at hl 8 rfl) ?_
              refine lv_icmp_ne (tgt := 1724) S.1 S.2.1 dL_refuses_1717 (by decide) (fun cq => ?_) (fun cq => ?_)
              · have h := d_f cq h
                cases h
              · have h := d_t cq h
                refine lv_iconst (v := 1) S.1 S.2.1 dL_refuses_1720 (by decide) ?_
                refine lv_goto (tgt := 1725) S.1 S.2.1 dL_refuses_1721 (by decide) ?_
                obtain rfl := Option.some.inj h
                exact dLti S hr hlk hE hP hS rfl (by omega) (by omega) dL_refuses_1725
          · exact absurd (by decide) cq
