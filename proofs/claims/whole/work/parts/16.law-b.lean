theorem dL_law_1150 : decode cL_law 1150 = .ok (.aload_n 1, 1) := by decide +kernel
theorem dL_law_1151 : decode cL_law 1151 = .ok (.aload_n 0, 1) := by decide +kernel
theorem dL_law_1152 : decode cL_law 1152 = .ok (.iload 4, 2) := by decide +kernel
theorem dL_law_1154 : decode cL_law 1154 = .ok (.iconst 1, 1) := by decide +kernel
theorem dL_law_1155 : decode cL_law 1155 = .ok (.iadd, 1) := by decide +kernel
theorem dL_law_1156 : decode cL_law 1156 = .ok (.iaload, 1) := by decide +kernel
theorem dL_law_1157 : decode cL_law 1157 = .ok (.aload_n 0, 1) := by decide +kernel
theorem dL_law_1158 : decode cL_law 1158 = .ok (.iload 4, 2) := by decide +kernel
theorem dL_law_1160 : decode cL_law 1160 = .ok (.iconst 2, 1) := by decide +kernel
theorem dL_law_1161 : decode cL_law 1161 = .ok (.iadd, 1) := by decide +kernel
theorem dL_law_1162 : decode cL_law 1162 = .ok (.iaload, 1) := by decide +kernel
theorem dL_law_1163 : decode cL_law 1163 = .ok (.aload_n 3, 1) := by decide +kernel
theorem dL_law_1164 : decode cL_law 1164 = .ok (.invokestatic 152, 3) := by decide +kernel
theorem dL_law_1167 : decode cL_law 1167 = .ok (.istore 5, 2) := by decide +kernel
theorem dL_law_1169 : decode cL_law 1169 = .ok (.aload_n 2, 1) := by decide +kernel
theorem dL_law_1170 : decode cL_law 1170 = .ok (.aload_n 0, 1) := by decide +kernel
theorem dL_law_1171 : decode cL_law 1171 = .ok (.iload 4, 2) := by decide +kernel
theorem dL_law_1173 : decode cL_law 1173 = .ok (.iconst 1, 1) := by decide +kernel
theorem dL_law_1174 : decode cL_law 1174 = .ok (.iadd, 1) := by decide +kernel
theorem dL_law_1175 : decode cL_law 1175 = .ok (.iaload, 1) := by decide +kernel
theorem dL_law_1176 : decode cL_law 1176 = .ok (.aload_n 0, 1) := by decide +kernel
theorem dL_law_1177 : decode cL_law 1177 = .ok (.iload 4, 2) := by decide +kernel
theorem dL_law_1179 : decode cL_law 1179 = .ok (.iconst 2, 1) := by decide +kernel
theorem dL_law_1180 : decode cL_law 1180 = .ok (.iadd, 1) := by decide +kernel
theorem dL_law_1181 : decode cL_law 1181 = .ok (.iaload, 1) := by decide +kernel
theorem dL_law_1182 : decode cL_law 1182 = .ok (.invokevirtual 154, 3) := by decide +kernel
theorem dL_law_1185 : decode cL_law 1185 = .ok (.istore 6, 2) := by decide +kernel
theorem dL_law_1187 : decode cL_law 1187 = .ok (.aload_n 2, 1) := by decide +kernel
theorem dL_law_1188 : decode cL_law 1188 = .ok (.invokevirtual 104, 3) := by decide +kernel
theorem dL_law_1191 : decode cL_law 1191 = .ok (.iload 5, 2) := by decide +kernel
theorem dL_law_1193 : decode cL_law 1193 = .ok (.if_icmp .eq 5, 3) := by decide +kernel
theorem dL_law_1196 : decode cL_law 1196 = .ok (.iconst 0, 1) := by decide +kernel
theorem dL_law_1197 : decode cL_law 1197 = .ok (.ireturn, 1) := by decide +kernel
theorem dL_law_1198 : decode cL_law 1198 = .ok (.iload 5, 2) := by decide +kernel
theorem dL_law_1200 : decode cL_law 1200 = .ok (.ifCond .ne 15, 3) := by decide +kernel
theorem dL_law_1203 : decode cL_law 1203 = .ok (.aload_n 3, 1) := by decide +kernel
theorem dL_law_1204 : decode cL_law 1204 = .ok (.iconst 0, 1) := by decide +kernel
theorem dL_law_1205 : decode cL_law 1205 = .ok (.laload, 1) := by decide +kernel
theorem dL_law_1206 : decode cL_law 1206 = .ok (.iload 6, 2) := by decide +kernel
theorem dL_law_1208 : decode cL_law 1208 = .ok (.i2l, 1) := by decide +kernel
theorem dL_law_1209 : decode cL_law 1209 = .ok (.lcmp, 1) := by decide +kernel
theorem dL_law_1210 : decode cL_law 1210 = .ok (.ifCond .eq 5, 3) := by decide +kernel
theorem dL_law_1213 : decode cL_law 1213 = .ok (.iconst 0, 1) := by decide +kernel
theorem dL_law_1214 : decode cL_law 1214 = .ok (.ireturn, 1) := by decide +kernel
theorem dL_law_1215 : decode cL_law 1215 = .ok (.goto 658, 3) := by decide +kernel
def fLaw_13 (xs : Nat → Int32) (nL : Nat) (i : Int32) (m : dM) : Option dM := dg (dIx (i + 1) nL) (dg (dIx (i + 2) nL) ((fL_fault m 0 (xs (Int32.toNatClampNeg (i + 1))) (xs (Int32.toNatClampNeg (i + 2))) 463).bind (fun q => dP2 q (fun v3 m2 => dg (dIx (i + 1) nL) (dg (dIx (i + 2) nL) ((fX12_fault m2 444 (xs (Int32.toNatClampNeg (i + 1))) (xs (Int32.toNatClampNeg (i + 2)))).bind (fun q => dP2 q (fun v6 m5 => (fX12_thrown m5 444).bind (fun v8 => if v8 = v3 then if v3 = 0 then dg (dIx 0 (dL 463)) (if (lg_cmp (m5.2 463 (Int32.toNatClampNeg (0))) (Int32.toInt64 v6)) = 0 then some m5 else none) else some m5 else none)))))))))
set_option maxHeartbeats 4000000 in
set_option maxRecDepth 100000 in
theorem kLaw_13 {p : Program} {l : Launch} {e : Env} {s : State} {mth : MethodId} {below : List Frame} {meth : Method} {c : Code} {b nL : Nat} {xs : Nat → Int32} {g : dG} {Q : State → Prop} {H : Heap} {locs : List Loc} {cells slots : Nat} {ls : Array Slot} {i : Int32} {m m9 : dM} (hst : l.stackTraces = false) (S : CallFix p mth c cL_law 8 s #[Value.ref b] wsL_law RL) (hX : va_X b nL xs s s.heap) (hbl : b < s.heap.size) (hbA : ¬ dA g b) (hE : dEnv g s) (hR : cells + 6 ≤ room_1.cells ∧ slots + 36 ≤ room_1.slots) (h : fLaw_13 xs nL i m = some m9) (hP : va_P g.1 vwCl (dws g m) H) (hS : va_S (dA g) s.heap H locs) (hl : lv_has ls 8 [(4, .int i), (0, .ref b), (1, .ref (dad g 0)), (2, .ref (dad g 444)), (3, .ref (dad g 463))])
    (kk : ∀ (H : Heap) (locs : List Loc) (ls : Array Slot) (cells2 slots2 : Nat), cells2 ≤ cells + 6 → slots2 ≤ slots + 36 → va_P g.1 vwCl (dws g m9) H → va_S (dA g) s.heap H locs → lv_has ls 8 [(4, .int i), (0, .ref b), (1, .ref (dad g 0)), (2, .ref (dad g 444)), (3, .ref (dad g 463))] → W p l e room_1 s mth #[Value.ref b] below meth c H locs cells2 slots2 Q (F0 mth 1873 ls [])) : W p l e room_1 s mth #[Value.ref b] below meth c H locs cells slots Q (F0 mth 1150 ls []) := by
  obtain ⟨hR1, hR2⟩ := hR
  unfold fLaw_13 at h
  refine lv_aload_n S.1 S.2.1 dL_law_1150 rfl (lv_at hl 2 rfl) ?_
  refine lv_aload_n S.1 S.2.1 dL_law_1151 rfl (lv_at hl 1 rfl) ?_
  refine lv_iload S.1 S.2.1 dL_law_1152 (lv_at hl 0 rfl) ?_
  refine lv_iconst (v := 1) S.1 S.2.1 dL_law_1154 (by decide) ?_
  refine lv_iadd S.1 S.2.1 dL_law_1155 ?_
  obtain ⟨hi, h⟩ := d_g h
  refine va_sld S.1 S.2.1 hX hbl hbA hS (dIx_in hi) dL_law_1156 ?_
  refine lv_aload_n S.1 S.2.1 dL_law_1157 rfl (lv_at hl 1 rfl) ?_
  refine lv_iload S.1 S.2.1 dL_law_1158 (lv_at hl 0 rfl) ?_
  refine lv_iconst (v := 2) S.1 S.2.1 dL_law_1160 (by decide) ?_
  refine lv_iadd S.1 S.2.1 dL_law_1161 ?_
  obtain ⟨hi, h⟩ := d_g h
  refine va_sld S.1 S.2.1 hX hbl hbA hS (dIx_in hi) dL_law_1162 ?_
  refine lv_aload_n S.1 S.2.1 dL_law_1163 rfl (lv_at hl 4 rfl) ?_
  obtain ⟨⟨v3, m2⟩, hc1, h⟩ := d_b h
  have h := d_p2 h
  refine dLri (vx_runSX (As := [.ref (dad g 0), .int (xs (Int32.toNatClampNeg (i + 1))), .int (xs (Int32.toNatClampNeg (i + 2))), .ref (dad g 463)]) (rest := []) S (kL_fault l g hst hc1) (vx_cwSW 4 S.2.2.2.2 gL_law_L_fault rfl rfl rfl ynL_fault ⟨(Nat.le_of_ble_eq_true rfl), (Nat.le_of_ble_eq_true rfl)⟩) (dpS hE hP hS) rfl rfl hl.1 rfl (lv_room (Nat.le_of_ble_eq_true rfl)) dL_law_1164 ⟨by omega, by omega⟩) hS (fun H locs hP hS => ?_)
  refine lv_istore (lv' := [(5, .int v3), (4, .int i), (0, .ref b), (1, .ref (dad g 0)), (2, .ref (dad g 444)), (3, .ref (dad g 463))]) S.1 S.2.1 dL_law_1167 hl (by decide) rfl (fun ls hl => ?_)
  refine lv_aload_n S.1 S.2.1 dL_law_1169 rfl (lv_at hl 4 rfl) ?_
  refine lv_aload_n S.1 S.2.1 dL_law_1170 rfl (lv_at hl 2 rfl) ?_
  refine lv_iload S.1 S.2.1 dL_law_1171 (lv_at hl 1 rfl) ?_
  refine lv_iconst (v := 1) S.1 S.2.1 dL_law_1173 (by decide) ?_
  refine lv_iadd S.1 S.2.1 dL_law_1174 ?_
  obtain ⟨hi, h⟩ := d_g h
  refine va_sld S.1 S.2.1 hX hbl hbA hS (dIx_in hi) dL_law_1175 ?_
  refine lv_aload_n S.1 S.2.1 dL_law_1176 rfl (lv_at hl 2 rfl) ?_
  refine lv_iload S.1 S.2.1 dL_law_1177 (lv_at hl 1 rfl) ?_
  refine lv_iconst (v := 2) S.1 S.2.1 dL_law_1179 (by decide) ?_
  refine lv_iadd S.1 S.2.1 dL_law_1180 ?_
  obtain ⟨hi, h⟩ := d_g h
  refine va_sld S.1 S.2.1 hX hbl hbA hS (dIx_in hi) dL_law_1181 ?_
  obtain ⟨⟨v6, m5⟩, hc4, h⟩ := d_b h
  have h := d_p2 h
  refine dri (va_runV (As := [.int (xs (Int32.toNatClampNeg (i + 1))), .int (xs (Int32.toNatClampNeg (i + 2)))]) (rest := []) S (kX12_fault l g hc4) (cwV 2 S.2.2.2.2 gL_law_X12_fault rfl rfl rfl ynX12_fault ⟨Nat.le_of_ble_eq_true rfl, Nat.le_of_ble_eq_true rfl⟩) (dpV hE hP hS (ci := 12) rfl (dat13 dk_444)) rfl rfl hl.1 rfl (lv_room (Nat.le_of_ble_eq_true rfl)) dL_law_1182 ⟨by omega, by omega⟩) hS (fun H locs hP hS => ?_)
  refine lv_istore (lv' := [(6, .int v6), (5, .int v3), (4, .int i), (0, .ref b), (1, .ref (dad g 0)), (2, .ref (dad g 444)), (3, .ref (dad g 463))]) S.1 S.2.1 dL_law_1185 hl (by decide) rfl (fun ls hl => ?_)
  refine lv_aload_n S.1 S.2.1 dL_law_1187 rfl (lv_at hl 5 rfl) ?_
  obtain ⟨v8, hc7, h⟩ := d_b h
  refine dri (va_runV (As := []) (rest := []) S (kX12_thrown l g hc7) (cwV 0 S.2.2.2.2 gL_law_X12_thrown rfl rfl rfl ynX12_thrown ⟨Nat.le_of_ble_eq_true rfl, Nat.le_of_ble_eq_true rfl⟩) (dpV hE hP hS (ci := 12) rfl (dat13 dk_444)) rfl rfl hl.1 rfl (lv_room (Nat.le_of_ble_eq_true rfl)) dL_law_1188 ⟨by omega, by omega⟩) hS (fun H locs hP hS => ?_)
  refine lv_iload S.1 S.2.1 dL_law_1191 (lv_at hl 1 rfl) ?_
  refine lv_icmp_eq (tgt := 1198) S.1 S.2.1 dL_law_1193 (by decide) (fun cq => ?_) (fun cq => ?_)
  · have h := d_t cq h
    refine lv_iload S.1 S.2.1 dL_law_1198 (lv_at hl 1 rfl) ?_
    refine lv_if_ne (tgt := 1215) S.1 S.2.1 dL_law_1200 (by decide) (fun cq => ?_) (fun cq => ?_)
    · have h := d_f cq h
      refine lv_goto (tgt := 1873) S.1 S.2.1 dL_law_1215 (by decide) ?_
      obtain rfl := Option.some.inj h
      exact kk H locs ls _ _ (by omega) (by omega) hP hS (lv_sub hl [2, 3, 4, 5, 6] rfl)
    · have h := d_t cq h
      refine lv_aload_n S.1 S.2.1 dL_law_1203 rfl (lv_at hl 6 rfl) ?_
      refine lv_iconst (v := 0) S.1 S.2.1 dL_law_1204 (by decide) ?_
      obtain ⟨hi, h⟩ := d_g h
      refine d_lald S hE hP dk_463 hi dL_law_1205 ?_
      refine lv_iload S.1 S.2.1 dL_law_1206 (lv_at hl 0 rfl) ?_
      refine lv_i2l S.1 S.2.1 dL_law_1208 rfl ?_
      refine W.lcmp S.1 S.2.1 dL_law_1209 ?_
      refine lv_if_eq (tgt := 1215) S.1 S.2.1 dL_law_1210 (by decide) (fun cq => ?_) (fun cq => ?_)
      · have h := d_t cq h
        refine lv_goto (tgt := 1873) S.1 S.2.1 dL_law_1215 (by decide) ?_
        obtain rfl := Option.some.inj h
        exact kk H locs ls _ _ (by omega) (by omega) hP hS (lv_sub hl [2, 3, 4, 5, 6] rfl)
      · have h := d_f cq h
        cases h
  · have h := d_f cq h
    cases h
theorem dL_law_1218 : decode cL_law 1218 = .ok (.aload_n 1, 1) := by decide +kernel
theorem dL_law_1219 : decode cL_law 1219 = .ok (.invokevirtual 155, 3) := by decide +kernel
theorem dL_law_1222 : decode cL_law 1222 = .ok (.aload_n 2, 1) := by decide +kernel
theorem dL_law_1223 : decode cL_law 1223 = .ok (.invokevirtual 159, 3) := by decide +kernel
theorem dL_law_1226 : decode cL_law 1226 = .ok (.if_icmp .eq 647, 3) := by decide +kernel
theorem dL_law_1229 : decode cL_law 1229 = .ok (.iconst 0, 1) := by decide +kernel
theorem dL_law_1230 : decode cL_law 1230 = .ok (.ireturn, 1) := by decide +kernel
def fLaw_14 (xs : Nat → Int32) (nL : Nat) (i : Int32) (m : dM) : Option dM := (fX11_agrees m 0).bind (fun q => dP2 q (fun v3 m2 => (fX12_agrees m2 444).bind (fun q => dP2 q (fun v6 m5 => if v3 = v6 then some m5 else none))))
set_option maxHeartbeats 4000000 in
set_option maxRecDepth 100000 in
theorem kLaw_14 {p : Program} {l : Launch} {e : Env} {s : State} {mth : MethodId} {below : List Frame} {meth : Method} {c : Code} {b nL : Nat} {xs : Nat → Int32} {g : dG} {Q : State → Prop} {H : Heap} {locs : List Loc} {cells slots : Nat} {ls : Array Slot} {i : Int32} {m m9 : dM} (hst : l.stackTraces = false) (S : CallFix p mth c cL_law 8 s #[Value.ref b] wsL_law RL) (hX : va_X b nL xs s s.heap) (hbl : b < s.heap.size) (hbA : ¬ dA g b) (hE : dEnv g s) (hR : cells + 6 ≤ room_1.cells ∧ slots + 36 ≤ room_1.slots) (h : fLaw_14 xs nL i m = some m9) (hP : va_P g.1 vwCl (dws g m) H) (hS : va_S (dA g) s.heap H locs) (hl : lv_has ls 8 [(4, .int i), (0, .ref b), (1, .ref (dad g 0)), (2, .ref (dad g 444)), (3, .ref (dad g 463))])
    (kk : ∀ (H : Heap) (locs : List Loc) (ls : Array Slot) (cells2 slots2 : Nat), cells2 ≤ cells + 6 → slots2 ≤ slots + 36 → va_P g.1 vwCl (dws g m9) H → va_S (dA g) s.heap H locs → lv_has ls 8 [(4, .int i), (0, .ref b), (1, .ref (dad g 0)), (2, .ref (dad g 444)), (3, .ref (dad g 463))] → W p l e room_1 s mth #[Value.ref b] below meth c H locs cells2 slots2 Q (F0 mth 1873 ls [])) : W p l e room_1 s mth #[Value.ref b] below meth c H locs cells slots Q (F0 mth 1218 ls []) := by
  obtain ⟨hR1, hR2⟩ := hR
  unfold fLaw_14 at h
  refine lv_aload_n S.1 S.2.1 dL_law_1218 rfl (lv_at hl 2 rfl) ?_
  obtain ⟨⟨v3, m2⟩, hc1, h⟩ := d_b h
  have h := d_p2 h
  refine dri (va_runV (As := []) (rest := []) S (kX11_agrees l g hc1) (cwV 0 S.2.2.2.2 gL_law_X11_agrees rfl rfl rfl ynX11_agrees ⟨Nat.le_of_ble_eq_true rfl, Nat.le_of_ble_eq_true rfl⟩) (dpV hE hP hS (ci := 11) rfl (dat12 dk_0)) rfl rfl hl.1 rfl (lv_room (Nat.le_of_ble_eq_true rfl)) dL_law_1219 ⟨by omega, by omega⟩) hS (fun H locs hP hS => ?_)
  refine lv_aload_n S.1 S.2.1 dL_law_1222 rfl (lv_at hl 3 rfl) ?_
  obtain ⟨⟨v6, m5⟩, hc4, h⟩ := d_b h
  have h := d_p2 h
  refine dri (va_runV (As := []) (rest := [.int v3]) S (kX12_agrees l g hc4) (cwV 0 S.2.2.2.2 gL_law_X12_agrees rfl rfl rfl ynX12_agrees ⟨Nat.le_of_ble_eq_true rfl, Nat.le_of_ble_eq_true rfl⟩) (dpV hE hP hS (ci := 12) rfl (dat13 dk_444)) rfl rfl hl.1 rfl (lv_room (Nat.le_of_ble_eq_true rfl)) dL_law_1223 ⟨by omega, by omega⟩) hS (fun H locs hP hS => ?_)
  refine lv_icmp_eq (tgt := 1873) S.1 S.2.1 dL_law_1226 (by decide) (fun cq => ?_) (fun cq => ?_)
  · have h := d_t cq h
    obtain rfl := Option.some.inj h
    exact kk H locs ls _ _ (by omega) (by omega) hP hS (lv_sub hl [0, 1, 2, 3, 4] rfl)
  · have h := d_f cq h
    cases h
theorem dL_law_1231 : decode cL_law 1231 = .ok (.aload_n 1, 1) := by decide +kernel
theorem dL_law_1232 : decode cL_law 1232 = .ok (.aload_n 0, 1) := by decide +kernel
theorem dL_law_1233 : decode cL_law 1233 = .ok (.iload 4, 2) := by decide +kernel
theorem dL_law_1235 : decode cL_law 1235 = .ok (.iconst 1, 1) := by decide +kernel
theorem dL_law_1236 : decode cL_law 1236 = .ok (.iadd, 1) := by decide +kernel
theorem dL_law_1237 : decode cL_law 1237 = .ok (.iaload, 1) := by decide +kernel
theorem dL_law_1238 : decode cL_law 1238 = .ok (.aload_n 0, 1) := by decide +kernel
theorem dL_law_1239 : decode cL_law 1239 = .ok (.iload 4, 2) := by decide +kernel
theorem dL_law_1241 : decode cL_law 1241 = .ok (.iconst 2, 1) := by decide +kernel
theorem dL_law_1242 : decode cL_law 1242 = .ok (.iadd, 1) := by decide +kernel
theorem dL_law_1243 : decode cL_law 1243 = .ok (.iaload, 1) := by decide +kernel
theorem dL_law_1244 : decode cL_law 1244 = .ok (.aload_n 0, 1) := by decide +kernel
theorem dL_law_1245 : decode cL_law 1245 = .ok (.iload 4, 2) := by decide +kernel
theorem dL_law_1247 : decode cL_law 1247 = .ok (.iconst 3, 1) := by decide +kernel
theorem dL_law_1248 : decode cL_law 1248 = .ok (.iadd, 1) := by decide +kernel
theorem dL_law_1249 : decode cL_law 1249 = .ok (.iaload, 1) := by decide +kernel
theorem dL_law_1250 : decode cL_law 1250 = .ok (.aload_n 0, 1) := by decide +kernel
theorem dL_law_1251 : decode cL_law 1251 = .ok (.iload 4, 2) := by decide +kernel
theorem dL_law_1253 : decode cL_law 1253 = .ok (.iconst 4, 1) := by decide +kernel
theorem dL_law_1254 : decode cL_law 1254 = .ok (.iadd, 1) := by decide +kernel
theorem dL_law_1255 : decode cL_law 1255 = .ok (.iaload, 1) := by decide +kernel
theorem dL_law_1256 : decode cL_law 1256 = .ok (.aload_n 3, 1) := by decide +kernel
theorem dL_law_1257 : decode cL_law 1257 = .ok (.invokestatic 160, 3) := by decide +kernel
theorem dL_law_1260 : decode cL_law 1260 = .ok (.istore 5, 2) := by decide +kernel
theorem dL_law_1262 : decode cL_law 1262 = .ok (.aload_n 2, 1) := by decide +kernel
theorem dL_law_1263 : decode cL_law 1263 = .ok (.aload_n 0, 1) := by decide +kernel
theorem dL_law_1264 : decode cL_law 1264 = .ok (.iload 4, 2) := by decide +kernel
theorem dL_law_1266 : decode cL_law 1266 = .ok (.iconst 1, 1) := by decide +kernel
theorem dL_law_1267 : decode cL_law 1267 = .ok (.iadd, 1) := by decide +kernel
theorem dL_law_1268 : decode cL_law 1268 = .ok (.iaload, 1) := by decide +kernel
theorem dL_law_1269 : decode cL_law 1269 = .ok (.aload_n 0, 1) := by decide +kernel
theorem dL_law_1270 : decode cL_law 1270 = .ok (.iload 4, 2) := by decide +kernel
theorem dL_law_1272 : decode cL_law 1272 = .ok (.iconst 2, 1) := by decide +kernel
theorem dL_law_1273 : decode cL_law 1273 = .ok (.iadd, 1) := by decide +kernel
theorem dL_law_1274 : decode cL_law 1274 = .ok (.iaload, 1) := by decide +kernel
theorem dL_law_1275 : decode cL_law 1275 = .ok (.aload_n 0, 1) := by decide +kernel
theorem dL_law_1276 : decode cL_law 1276 = .ok (.iload 4, 2) := by decide +kernel
theorem dL_law_1278 : decode cL_law 1278 = .ok (.iconst 3, 1) := by decide +kernel
theorem dL_law_1279 : decode cL_law 1279 = .ok (.iadd, 1) := by decide +kernel
theorem dL_law_1280 : decode cL_law 1280 = .ok (.iaload, 1) := by decide +kernel
theorem dL_law_1281 : decode cL_law 1281 = .ok (.aload_n 0, 1) := by decide +kernel
theorem dL_law_1282 : decode cL_law 1282 = .ok (.iload 4, 2) := by decide +kernel
theorem dL_law_1284 : decode cL_law 1284 = .ok (.iconst 4, 1) := by decide +kernel
theorem dL_law_1285 : decode cL_law 1285 = .ok (.iadd, 1) := by decide +kernel
theorem dL_law_1286 : decode cL_law 1286 = .ok (.iaload, 1) := by decide +kernel
theorem dL_law_1287 : decode cL_law 1287 = .ok (.invokevirtual 162, 3) := by decide +kernel
theorem dL_law_1290 : decode cL_law 1290 = .ok (.istore 6, 2) := by decide +kernel
theorem dL_law_1292 : decode cL_law 1292 = .ok (.aload_n 2, 1) := by decide +kernel
theorem dL_law_1293 : decode cL_law 1293 = .ok (.invokevirtual 104, 3) := by decide +kernel
theorem dL_law_1296 : decode cL_law 1296 = .ok (.iload 5, 2) := by decide +kernel
theorem dL_law_1298 : decode cL_law 1298 = .ok (.if_icmp .eq 5, 3) := by decide +kernel
theorem dL_law_1301 : decode cL_law 1301 = .ok (.iconst 0, 1) := by decide +kernel
theorem dL_law_1302 : decode cL_law 1302 = .ok (.ireturn, 1) := by decide +kernel
theorem dL_law_1303 : decode cL_law 1303 = .ok (.iload 5, 2) := by decide +kernel
theorem dL_law_1305 : decode cL_law 1305 = .ok (.ifCond .ne 15, 3) := by decide +kernel
theorem dL_law_1308 : decode cL_law 1308 = .ok (.aload_n 3, 1) := by decide +kernel
theorem dL_law_1309 : decode cL_law 1309 = .ok (.iconst 0, 1) := by decide +kernel
theorem dL_law_1310 : decode cL_law 1310 = .ok (.laload, 1) := by decide +kernel
theorem dL_law_1311 : decode cL_law 1311 = .ok (.iload 6, 2) := by decide +kernel
theorem dL_law_1313 : decode cL_law 1313 = .ok (.i2l, 1) := by decide +kernel
theorem dL_law_1314 : decode cL_law 1314 = .ok (.lcmp, 1) := by decide +kernel
theorem dL_law_1315 : decode cL_law 1315 = .ok (.ifCond .eq 5, 3) := by decide +kernel
theorem dL_law_1318 : decode cL_law 1318 = .ok (.iconst 0, 1) := by decide +kernel
theorem dL_law_1319 : decode cL_law 1319 = .ok (.ireturn, 1) := by decide +kernel
theorem dL_law_1320 : decode cL_law 1320 = .ok (.goto 553, 3) := by decide +kernel
def fLaw_15 (xs : Nat → Int32) (nL : Nat) (i : Int32) (m : dM) : Option dM := dg (dIx (i + 1) nL) (dg (dIx (i + 2) nL) (dg (dIx (i + 3) nL) (dg (dIx (i + 4) nL) ((fL_phase m 0 (xs (Int32.toNatClampNeg (i + 1))) (xs (Int32.toNatClampNeg (i + 2))) (xs (Int32.toNatClampNeg (i + 3))) (xs (Int32.toNatClampNeg (i + 4))) 463).bind (fun q => dP2 q (fun v3 m2 => dg (dIx (i + 1) nL) (dg (dIx (i + 2) nL) (dg (dIx (i + 3) nL) (dg (dIx (i + 4) nL) ((fX12_phase m2 444 (xs (Int32.toNatClampNeg (i + 1))) (xs (Int32.toNatClampNeg (i + 2))) (xs (Int32.toNatClampNeg (i + 3))) (xs (Int32.toNatClampNeg (i + 4)))).bind (fun q => dP2 q (fun v6 m5 => (fX12_thrown m5 444).bind (fun v8 => if v8 = v3 then if v3 = 0 then dg (dIx 0 (dL 463)) (if (lg_cmp (m5.2 463 (Int32.toNatClampNeg (0))) (Int32.toInt64 v6)) = 0 then some m5 else none) else some m5 else none)))))))))))))
set_option maxHeartbeats 4000000 in
set_option maxRecDepth 100000 in
theorem kLaw_15 {p : Program} {l : Launch} {e : Env} {s : State} {mth : MethodId} {below : List Frame} {meth : Method} {c : Code} {b nL : Nat} {xs : Nat → Int32} {g : dG} {Q : State → Prop} {H : Heap} {locs : List Loc} {cells slots : Nat} {ls : Array Slot} {i : Int32} {m m9 : dM} (hst : l.stackTraces = false) (S : CallFix p mth c cL_law 8 s #[Value.ref b] wsL_law RL) (hX : va_X b nL xs s s.heap) (hbl : b < s.heap.size) (hbA : ¬ dA g b) (hE : dEnv g s) (hR : cells + 6 ≤ room_1.cells ∧ slots + 36 ≤ room_1.slots) (h : fLaw_15 xs nL i m = some m9) (hP : va_P g.1 vwCl (dws g m) H) (hS : va_S (dA g) s.heap H locs) (hl : lv_has ls 8 [(4, .int i), (0, .ref b), (1, .ref (dad g 0)), (2, .ref (dad g 444)), (3, .ref (dad g 463))])
    (kk : ∀ (H : Heap) (locs : List Loc) (ls : Array Slot) (cells2 slots2 : Nat), cells2 ≤ cells + 6 → slots2 ≤ slots + 36 → va_P g.1 vwCl (dws g m9) H → va_S (dA g) s.heap H locs → lv_has ls 8 [(4, .int i), (0, .ref b), (1, .ref (dad g 0)), (2, .ref (dad g 444)), (3, .ref (dad g 463))] → W p l e room_1 s mth #[Value.ref b] below meth c H locs cells2 slots2 Q (F0 mth 1873 ls [])) : W p l e room_1 s mth #[Value.ref b] below meth c H locs cells slots Q (F0 mth 1231 ls []) := by
  obtain ⟨hR1, hR2⟩ := hR
  unfold fLaw_15 at h
  refine lv_aload_n S.1 S.2.1 dL_law_1231 rfl (lv_at hl 2 rfl) ?_
  refine lv_aload_n S.1 S.2.1 dL_law_1232 rfl (lv_at hl 1 rfl) ?_
  refine lv_iload S.1 S.2.1 dL_law_1233 (lv_at hl 0 rfl) ?_
  refine lv_iconst (v := 1) S.1 S.2.1 dL_law_1235 (by decide) ?_
  refine lv_iadd S.1 S.2.1 dL_law_1236 ?_
  obtain ⟨hi, h⟩ := d_g h
  refine va_sld S.1 S.2.1 hX hbl hbA hS (dIx_in hi) dL_law_1237 ?_
  refine lv_aload_n S.1 S.2.1 dL_law_1238 rfl (lv_at hl 1 rfl) ?_
  refine lv_iload S.1 S.2.1 dL_law_1239 (lv_at hl 0 rfl) ?_
  refine lv_iconst (v := 2) S.1 S.2.1 dL_law_1241 (by decide) ?_
  refine lv_iadd S.1 S.2.1 dL_law_1242 ?_
  obtain ⟨hi, h⟩ := d_g h
  refine va_sld S.1 S.2.1 hX hbl hbA hS (dIx_in hi) dL_law_1243 ?_
  refine lv_aload_n S.1 S.2.1 dL_law_1244 rfl (lv_at hl 1 rfl) ?_
  refine lv_iload S.1 S.2.1 dL_law_1245 (lv_at hl 0 rfl) ?_
  refine lv_iconst (v := 3) S.1 S.2.1 dL_law_1247 (by decide) ?_
  refine lv_iadd S.1 S.2.1 dL_law_1248 ?_
  obtain ⟨hi, h⟩ := d_g h
  refine va_sld S.1 S.2.1 hX hbl hbA hS (dIx_in hi) dL_law_1249 ?_
  refine lv_aload_n S.1 S.2.1 dL_law_1250 rfl (lv_at hl 1 rfl) ?_
  refine lv_iload S.1 S.2.1 dL_law_1251 (lv_at hl 0 rfl) ?_
  refine lv_iconst (v := 4) S.1 S.2.1 dL_law_1253 (by decide) ?_
  refine lv_iadd S.1 S.2.1 dL_law_1254 ?_
  obtain ⟨hi, h⟩ := d_g h
  refine va_sld S.1 S.2.1 hX hbl hbA hS (dIx_in hi) dL_law_1255 ?_
  refine lv_aload_n S.1 S.2.1 dL_law_1256 rfl (lv_at hl 4 rfl) ?_
  obtain ⟨⟨v3, m2⟩, hc1, h⟩ := d_b h
  have h := d_p2 h
  refine dLri (vx_runSX (As := [.ref (dad g 0), .int (xs (Int32.toNatClampNeg (i + 1))), .int (xs (Int32.toNatClampNeg (i + 2))), .int (xs (Int32.toNatClampNeg (i + 3))), .int (xs (Int32.toNatClampNeg (i + 4))), .ref (dad g 463)]) (rest := []) S (kL_phase l g hst hc1) (vx_cwSW 6 S.2.2.2.2 gL_law_L_phase rfl rfl rfl ynL_phase ⟨(Nat.le_of_ble_eq_true rfl), (Nat.le_of_ble_eq_true rfl)⟩) (dpS hE hP hS) rfl rfl hl.1 rfl (lv_room (Nat.le_of_ble_eq_true rfl)) dL_law_1257 ⟨by omega, by omega⟩) hS (fun H locs hP hS => ?_)
  refine lv_istore (lv' := [(5, .int v3), (4, .int i), (0, .ref b), (1, .ref (dad g 0)), (2, .ref (dad g 444)), (3, .ref (dad g 463))]) S.1 S.2.1 dL_law_1260 hl (by decide) rfl (fun ls hl => ?_)
  refine lv_aload_n S.1 S.2.1 dL_law_1262 rfl (lv_at hl 4 rfl) ?_
  refine lv_aload_n S.1 S.2.1 dL_law_1263 rfl (lv_at hl 2 rfl) ?_
  refine lv_iload S.1 S.2.1 dL_law_1264 (lv_at hl 1 rfl) ?_
  refine lv_iconst (v := 1) S.1 S.2.1 dL_law_1266 (by decide) ?_
  refine lv_iadd S.1 S.2.1 dL_law_1267 ?_
  obtain ⟨hi, h⟩ := d_g h
  refine va_sld S.1 S.2.1 hX hbl hbA hS (dIx_in hi) dL_law_1268 ?_
  refine lv_aload_n S.1 S.2.1 dL_law_1269 rfl (lv_at hl 2 rfl) ?_
  refine lv_iload S.1 S.2.1 dL_law_1270 (lv_at hl 1 rfl) ?_
  refine lv_iconst (v := 2) S.1 S.2.1 dL_law_1272 (by decide) ?_
  refine lv_iadd S.1 S.2.1 dL_law_1273 ?_
  obtain ⟨hi, h⟩ := d_g h
  refine va_sld S.1 S.2.1 hX hbl hbA hS (dIx_in hi) dL_law_1274 ?_
  refine lv_aload_n S.1 S.2.1 dL_law_1275 rfl (lv_at hl 2 rfl) ?_
  refine lv_iload S.1 S.2.1 dL_law_1276 (lv_at hl 1 rfl) ?_
  refine lv_iconst (v := 3) S.1 S.2.1 dL_law_1278 (by decide) ?_
  refine lv_iadd S.1 S.2.1 dL_law_1279 ?_
  obtain ⟨hi, h⟩ := d_g h
  refine va_sld S.1 S.2.1 hX hbl hbA hS (dIx_in hi) dL_law_1280 ?_
  refine lv_aload_n S.1 S.2.1 dL_law_1281 rfl (lv_at hl 2 rfl) ?_
  refine lv_iload S.1 S.2.1 dL_law_1282 (lv_at hl 1 rfl) ?_
  refine lv_iconst (v := 4) S.1 S.2.1 dL_law_1284 (by decide) ?_
  refine lv_iadd S.1 S.2.1 dL_law_1285 ?_
  obtain ⟨hi, h⟩ := d_g h
  refine va_sld S.1 S.2.1 hX hbl hbA hS (dIx_in hi) dL_law_1286 ?_
  obtain ⟨⟨v6, m5⟩, hc4, h⟩ := d_b h
  have h := d_p2 h
  refine dri (va_runV (As := [.int (xs (Int32.toNatClampNeg (i + 1))), .int (xs (Int32.toNatClampNeg (i + 2))), .int (xs (Int32.toNatClampNeg (i + 3))), .int (xs (Int32.toNatClampNeg (i + 4)))]) (rest := []) S (kX12_phase l g hc4) (cwV 4 S.2.2.2.2 gL_law_X12_phase rfl rfl rfl ynX12_phase ⟨Nat.le_of_ble_eq_true rfl, Nat.le_of_ble_eq_true rfl⟩) (dpV hE hP hS (ci := 12) rfl (dat13 dk_444)) rfl rfl hl.1 rfl (lv_room (Nat.le_of_ble_eq_true rfl)) dL_law_1287 ⟨by omega, by omega⟩) hS (fun H locs hP hS => ?_)
  refine lv_istore (lv' := [(6, .int v6), (5, .int v3), (4, .int i), (0, .ref b), (1, .ref (dad g 0)), (2, .ref (dad g 444)), (3, .ref (dad g 463))]) S.1 S.2.1 dL_law_1290 hl (by decide) rfl (fun ls hl => ?_)
  refine lv_aload_n S.1 S.2.1 dL_law_1292 rfl (lv_at hl 5 rfl) ?_
  obtain ⟨v8, hc7, h⟩ := d_b h
  refine dri (va_runV (As := []) (rest := []) S (kX12_thrown l g hc7) (cwV 0 S.2.2.2.2 gL_law_X12_thrown rfl rfl rfl ynX12_thrown ⟨Nat.le_of_ble_eq_true rfl, Nat.le_of_ble_eq_true rfl⟩) (dpV hE hP hS (ci := 12) rfl (dat13 dk_444)) rfl rfl hl.1 rfl (lv_room (Nat.le_of_ble_eq_true rfl)) dL_law_1293 ⟨by omega, by omega⟩) hS (fun H locs hP hS => ?_)
  refine lv_iload S.1 S.2.1 dL_law_1296 (lv_at hl 1 rfl) ?_
  refine lv_icmp_eq (tgt := 1303) S.1 S.2.1 dL_law_1298 (by decide) (fun cq => ?_) (fun cq => ?_)
  · have h := d_t cq h
    refine lv_iload S.1 S.2.1 dL_law_1303 (lv_at hl 1 rfl) ?_
    refine lv_if_ne (tgt := 1320) S.1 S.2.1 dL_law_1305 (by decide) (fun cq => ?_) (fun cq => ?_)
    · have h := d_f cq h
      refine lv_goto (tgt := 1873) S.1 S.2.1 dL_law_1320 (by decide) ?_
      obtain rfl := Option.some.inj h
      exact kk H locs ls _ _ (by omega) (by omega) hP hS (lv_sub hl [2, 3, 4, 5, 6] rfl)
    · have h := d_t cq h
      refine lv_aload_n S.1 S.2.1 dL_law_1308 rfl (lv_at hl 6 rfl) ?_
      refine lv_iconst (v := 0) S.1 S.2.1 dL_law_1309 (by decide) ?_
      obtain ⟨hi, h⟩ := d_g h
      refine d_lald S hE hP dk_463 hi dL_law_1310 ?_
      refine lv_iload S.1 S.2.1 dL_law_1311 (lv_at hl 0 rfl) ?_
      refine lv_i2l S.1 S.2.1 dL_law_1313 rfl ?_
      refine W.lcmp S.1 S.2.1 dL_law_1314 ?_
      refine lv_if_eq (tgt := 1320) S.1 S.2.1 dL_law_1315 (by decide) (fun cq => ?_) (fun cq => ?_)
      · have h := d_t cq h
        refine lv_goto (tgt := 1873) S.1 S.2.1 dL_law_1320 (by decide) ?_
        obtain rfl := Option.some.inj h
        exact kk H locs ls _ _ (by omega) (by omega) hP hS (lv_sub hl [2, 3, 4, 5, 6] rfl)
      · have h := d_f cq h
        cases h
  · have h := d_f cq h
    cases h
theorem dL_law_1323 : decode cL_law 1323 = .ok (.aload_n 1, 1) := by decide +kernel
theorem dL_law_1324 : decode cL_law 1324 = .ok (.aload_n 0, 1) := by decide +kernel
theorem dL_law_1325 : decode cL_law 1325 = .ok (.iload 4, 2) := by decide +kernel
theorem dL_law_1327 : decode cL_law 1327 = .ok (.iconst 1, 1) := by decide +kernel
theorem dL_law_1328 : decode cL_law 1328 = .ok (.iadd, 1) := by decide +kernel
theorem dL_law_1329 : decode cL_law 1329 = .ok (.iaload, 1) := by decide +kernel
theorem dL_law_1330 : decode cL_law 1330 = .ok (.aload_n 0, 1) := by decide +kernel
theorem dL_law_1331 : decode cL_law 1331 = .ok (.iload 4, 2) := by decide +kernel
theorem dL_law_1333 : decode cL_law 1333 = .ok (.iconst 2, 1) := by decide +kernel
theorem dL_law_1334 : decode cL_law 1334 = .ok (.iadd, 1) := by decide +kernel
theorem dL_law_1335 : decode cL_law 1335 = .ok (.iaload, 1) := by decide +kernel
theorem dL_law_1336 : decode cL_law 1336 = .ok (.aload_n 0, 1) := by decide +kernel
theorem dL_law_1337 : decode cL_law 1337 = .ok (.iload 4, 2) := by decide +kernel
theorem dL_law_1339 : decode cL_law 1339 = .ok (.iconst 3, 1) := by decide +kernel
theorem dL_law_1340 : decode cL_law 1340 = .ok (.iadd, 1) := by decide +kernel
theorem dL_law_1341 : decode cL_law 1341 = .ok (.iaload, 1) := by decide +kernel
theorem dL_law_1342 : decode cL_law 1342 = .ok (.aload_n 0, 1) := by decide +kernel
theorem dL_law_1343 : decode cL_law 1343 = .ok (.iload 4, 2) := by decide +kernel
theorem dL_law_1345 : decode cL_law 1345 = .ok (.iconst 4, 1) := by decide +kernel
theorem dL_law_1346 : decode cL_law 1346 = .ok (.iadd, 1) := by decide +kernel
theorem dL_law_1347 : decode cL_law 1347 = .ok (.iaload, 1) := by decide +kernel
theorem dL_law_1348 : decode cL_law 1348 = .ok (.aload_n 0, 1) := by decide +kernel
theorem dL_law_1349 : decode cL_law 1349 = .ok (.iload 4, 2) := by decide +kernel
theorem dL_law_1351 : decode cL_law 1351 = .ok (.iconst 5, 1) := by decide +kernel
theorem dL_law_1352 : decode cL_law 1352 = .ok (.iadd, 1) := by decide +kernel
theorem dL_law_1353 : decode cL_law 1353 = .ok (.iaload, 1) := by decide +kernel
theorem dL_law_1354 : decode cL_law 1354 = .ok (.aload_n 3, 1) := by decide +kernel
theorem dL_law_1355 : decode cL_law 1355 = .ok (.invokestatic 163, 3) := by decide +kernel
theorem dL_law_1358 : decode cL_law 1358 = .ok (.istore 5, 2) := by decide +kernel
theorem dL_law_1360 : decode cL_law 1360 = .ok (.aload_n 2, 1) := by decide +kernel
theorem dL_law_1361 : decode cL_law 1361 = .ok (.aload_n 0, 1) := by decide +kernel
theorem dL_law_1362 : decode cL_law 1362 = .ok (.iload 4, 2) := by decide +kernel
theorem dL_law_1364 : decode cL_law 1364 = .ok (.iconst 1, 1) := by decide +kernel
theorem dL_law_1365 : decode cL_law 1365 = .ok (.iadd, 1) := by decide +kernel
theorem dL_law_1366 : decode cL_law 1366 = .ok (.iaload, 1) := by decide +kernel
theorem dL_law_1367 : decode cL_law 1367 = .ok (.aload_n 0, 1) := by decide +kernel
theorem dL_law_1368 : decode cL_law 1368 = .ok (.iload 4, 2) := by decide +kernel
theorem dL_law_1370 : decode cL_law 1370 = .ok (.iconst 2, 1) := by decide +kernel
theorem dL_law_1371 : decode cL_law 1371 = .ok (.iadd, 1) := by decide +kernel
theorem dL_law_1372 : decode cL_law 1372 = .ok (.iaload, 1) := by decide +kernel
theorem dL_law_1373 : decode cL_law 1373 = .ok (.aload_n 0, 1) := by decide +kernel
theorem dL_law_1374 : decode cL_law 1374 = .ok (.iload 4, 2) := by decide +kernel
theorem dL_law_1376 : decode cL_law 1376 = .ok (.iconst 3, 1) := by decide +kernel
theorem dL_law_1377 : decode cL_law 1377 = .ok (.iadd, 1) := by decide +kernel
theorem dL_law_1378 : decode cL_law 1378 = .ok (.iaload, 1) := by decide +kernel
theorem dL_law_1379 : decode cL_law 1379 = .ok (.aload_n 0, 1) := by decide +kernel
theorem dL_law_1380 : decode cL_law 1380 = .ok (.iload 4, 2) := by decide +kernel
theorem dL_law_1382 : decode cL_law 1382 = .ok (.iconst 4, 1) := by decide +kernel
theorem dL_law_1383 : decode cL_law 1383 = .ok (.iadd, 1) := by decide +kernel
theorem dL_law_1384 : decode cL_law 1384 = .ok (.iaload, 1) := by decide +kernel
theorem dL_law_1385 : decode cL_law 1385 = .ok (.aload_n 0, 1) := by decide +kernel
theorem dL_law_1386 : decode cL_law 1386 = .ok (.iload 4, 2) := by decide +kernel
theorem dL_law_1388 : decode cL_law 1388 = .ok (.iconst 5, 1) := by decide +kernel
theorem dL_law_1389 : decode cL_law 1389 = .ok (.iadd, 1) := by decide +kernel
theorem dL_law_1390 : decode cL_law 1390 = .ok (.iaload, 1) := by decide +kernel
theorem dL_law_1391 : decode cL_law 1391 = .ok (.invokevirtual 166, 3) := by decide +kernel
theorem dL_law_1394 : decode cL_law 1394 = .ok (.istore 6, 2) := by decide +kernel
theorem dL_law_1396 : decode cL_law 1396 = .ok (.aload_n 2, 1) := by decide +kernel
theorem dL_law_1397 : decode cL_law 1397 = .ok (.invokevirtual 104, 3) := by decide +kernel
theorem dL_law_1400 : decode cL_law 1400 = .ok (.iload 5, 2) := by decide +kernel
theorem dL_law_1402 : decode cL_law 1402 = .ok (.if_icmp .eq 5, 3) := by decide +kernel
theorem dL_law_1405 : decode cL_law 1405 = .ok (.iconst 0, 1) := by decide +kernel
theorem dL_law_1406 : decode cL_law 1406 = .ok (.ireturn, 1) := by decide +kernel
theorem dL_law_1407 : decode cL_law 1407 = .ok (.iload 5, 2) := by decide +kernel
theorem dL_law_1409 : decode cL_law 1409 = .ok (.ifCond .ne 22, 3) := by decide +kernel
theorem dL_law_1412 : decode cL_law 1412 = .ok (.aload_n 3, 1) := by decide +kernel
theorem dL_law_1413 : decode cL_law 1413 = .ok (.iconst 0, 1) := by decide +kernel
theorem dL_law_1414 : decode cL_law 1414 = .ok (.laload, 1) := by decide +kernel
theorem dL_law_1415 : decode cL_law 1415 = .ok (.iload 6, 2) := by decide +kernel
theorem dL_law_1417 : decode cL_law 1417 = .ok (.ifCond .eq 7, 3) := by decide +kernel
theorem dL_law_1420 : decode cL_law 1420 = .ok (.lconst 1, 1) := by decide +kernel
theorem dL_law_1421 : decode cL_law 1421 = .ok (.goto 4, 3) := by decide +kernel
theorem dL_law_1424 : decode cL_law 1424 = .ok (.lconst 0, 1) := by decide +kernel
theorem dL_law_1425 : decode cL_law 1425 = .ok (.lcmp, 1) := by decide +kernel
theorem dL_law_1426 : decode cL_law 1426 = .ok (.ifCond .eq 5, 3) := by decide +kernel
theorem dL_law_1429 : decode cL_law 1429 = .ok (.iconst 0, 1) := by decide +kernel
theorem dL_law_1430 : decode cL_law 1430 = .ok (.ireturn, 1) := by decide +kernel
theorem dL_law_1431 : decode cL_law 1431 = .ok (.goto 442, 3) := by decide +kernel
def fLaw_16 (xs : Nat → Int32) (nL : Nat) (i : Int32) (m : dM) : Option dM := dg (dIx (i + 1) nL) (dg (dIx (i + 2) nL) (dg (dIx (i + 3) nL) (dg (dIx (i + 4) nL) (dg (dIx (i + 5) nL) ((fL_caught m 0 (xs (Int32.toNatClampNeg (i + 1))) (xs (Int32.toNatClampNeg (i + 2))) (xs (Int32.toNatClampNeg (i + 3))) (xs (Int32.toNatClampNeg (i + 4))) (xs (Int32.toNatClampNeg (i + 5))) 463).bind (fun q => dP2 q (fun v3 m2 => dg (dIx (i + 1) nL) (dg (dIx (i + 2) nL) (dg (dIx (i + 3) nL) (dg (dIx (i + 4) nL) (dg (dIx (i + 5) nL) ((fX12_caught m2 444 (xs (Int32.toNatClampNeg (i + 1))) (xs (Int32.toNatClampNeg (i + 2))) (xs (Int32.toNatClampNeg (i + 3))) (xs (Int32.toNatClampNeg (i + 4))) (xs (Int32.toNatClampNeg (i + 5)))).bind (fun q => dP2 q (fun v6 m5 => (fX12_thrown m5 444).bind (fun v8 => if v8 = v3 then if v3 = 0 then dg (dIx 0 (dL 463)) (if v6 = 0 then if (lg_cmp (m5.2 463 (Int32.toNatClampNeg (0))) 0) = 0 then some m5 else none else if (lg_cmp (m5.2 463 (Int32.toNatClampNeg (0))) 1) = 0 then some m5 else none) else some m5 else none)))))))))))))))
set_option maxHeartbeats 4000000 in
set_option maxRecDepth 100000 in
theorem kLaw_16 {p : Program} {l : Launch} {e : Env} {s : State} {mth : MethodId} {below : List Frame} {meth : Method} {c : Code} {b nL : Nat} {xs : Nat → Int32} {g : dG} {Q : State → Prop} {H : Heap} {locs : List Loc} {cells slots : Nat} {ls : Array Slot} {i : Int32} {m m9 : dM} (hst : l.stackTraces = false) (S : CallFix p mth c cL_law 8 s #[Value.ref b] wsL_law RL) (hX : va_X b nL xs s s.heap) (hbl : b < s.heap.size) (hbA : ¬ dA g b) (hE : dEnv g s) (hR : cells + 6 ≤ room_1.cells ∧ slots + 36 ≤ room_1.slots) (h : fLaw_16 xs nL i m = some m9) (hP : va_P g.1 vwCl (dws g m) H) (hS : va_S (dA g) s.heap H locs) (hl : lv_has ls 8 [(4, .int i), (0, .ref b), (1, .ref (dad g 0)), (2, .ref (dad g 444)), (3, .ref (dad g 463))])
    (kk : ∀ (H : Heap) (locs : List Loc) (ls : Array Slot) (cells2 slots2 : Nat), cells2 ≤ cells + 6 → slots2 ≤ slots + 36 → va_P g.1 vwCl (dws g m9) H → va_S (dA g) s.heap H locs → lv_has ls 8 [(4, .int i), (0, .ref b), (1, .ref (dad g 0)), (2, .ref (dad g 444)), (3, .ref (dad g 463))] → W p l e room_1 s mth #[Value.ref b] below meth c H locs cells2 slots2 Q (F0 mth 1873 ls [])) : W p l e room_1 s mth #[Value.ref b] below meth c H locs cells slots Q (F0 mth 1323 ls []) := by
  obtain ⟨hR1, hR2⟩ := hR
  unfold fLaw_16 at h
  refine lv_aload_n S.1 S.2.1 dL_law_1323 rfl (lv_at hl 2 rfl) ?_
  refine lv_aload_n S.1 S.2.1 dL_law_1324 rfl (lv_at hl 1 rfl) ?_
  refine lv_iload S.1 S.2.1 dL_law_1325 (lv_at hl 0 rfl) ?_
  refine lv_iconst (v := 1) S.1 S.2.1 dL_law_1327 (by decide) ?_
  refine lv_iadd S.1 S.2.1 dL_law_1328 ?_
  obtain ⟨hi, h⟩ := d_g h
  refine va_sld S.1 S.2.1 hX hbl hbA hS (dIx_in hi) dL_law_1329 ?_
  refine lv_aload_n S.1 S.2.1 dL_law_1330 rfl (lv_at hl 1 rfl) ?_
  refine lv_iload S.1 S.2.1 dL_law_1331 (lv_at hl 0 rfl) ?_
  refine lv_iconst (v := 2) S.1 S.2.1 dL_law_1333 (by decide) ?_
  refine lv_iadd S.1 S.2.1 dL_law_1334 ?_
  obtain ⟨hi, h⟩ := d_g h
  refine va_sld S.1 S.2.1 hX hbl hbA hS (dIx_in hi) dL_law_1335 ?_
  refine lv_aload_n S.1 S.2.1 dL_law_1336 rfl (lv_at hl 1 rfl) ?_
  refine lv_iload S.1 S.2.1 dL_law_1337 (lv_at hl 0 rfl) ?_
  refine lv_iconst (v := 3) S.1 S.2.1 dL_law_1339 (by decide) ?_
  refine lv_iadd S.1 S.2.1 dL_law_1340 ?_
  obtain ⟨hi, h⟩ := d_g h
  refine va_sld S.1 S.2.1 hX hbl hbA hS (dIx_in hi) dL_law_1341 ?_
  refine lv_aload_n S.1 S.2.1 dL_law_1342 rfl (lv_at hl 1 rfl) ?_
  refine lv_iload S.1 S.2.1 dL_law_1343 (lv_at hl 0 rfl) ?_
  refine lv_iconst (v := 4) S.1 S.2.1 dL_law_1345 (by decide) ?_
  refine lv_iadd S.1 S.2.1 dL_law_1346 ?_
  obtain ⟨hi, h⟩ := d_g h
  refine va_sld S.1 S.2.1 hX hbl hbA hS (dIx_in hi) dL_law_1347 ?_
  refine lv_aload_n S.1 S.2.1 dL_law_1348 rfl (lv_at hl 1 rfl) ?_
  refine lv_iload S.1 S.2.1 dL_law_1349 (lv_at hl 0 rfl) ?_
  refine lv_iconst (v := 5) S.1 S.2.1 dL_law_1351 (by decide) ?_
  refine lv_iadd S.1 S.2.1 dL_law_1352 ?_
  obtain ⟨hi, h⟩ := d_g h
  refine va_sld S.1 S.2.1 hX hbl hbA hS (dIx_in hi) dL_law_1353 ?_
  refine lv_aload_n S.1 S.2.1 dL_law_1354 rfl (lv_at hl 4 rfl) ?_
  obtain ⟨⟨v3, m2⟩, hc1, h⟩ := d_b h
  have h := d_p2 h
  refine dLri (vx_runSX (As := [.ref (dad g 0), .int (xs (Int32.toNatClampNeg (i + 1))), .int (xs (Int32.toNatClampNeg (i + 2))), .int (xs (Int32.toNatClampNeg (i + 3))), .int (xs (Int32.toNatClampNeg (i + 4))), .int (xs (Int32.toNatClampNeg (i + 5))), .ref (dad g 463)]) (rest := []) S (kL_caught l g hst hc1) (vx_cwSW 7 S.2.2.2.2 gL_law_L_caught rfl rfl rfl ynL_caught ⟨(Nat.le_of_ble_eq_true rfl), (Nat.le_of_ble_eq_true rfl)⟩) (dpS hE hP hS) rfl rfl hl.1 rfl (lv_room (Nat.le_of_ble_eq_true rfl)) dL_law_1355 ⟨by omega, by omega⟩) hS (fun H locs hP hS => ?_)
  refine lv_istore (lv' := [(5, .int v3), (4, .int i), (0, .ref b), (1, .ref (dad g 0)), (2, .ref (dad g 444)), (3, .ref (dad g 463))]) S.1 S.2.1 dL_law_1358 hl (by decide) rfl (fun ls hl => ?_)
  refine lv_aload_n S.1 S.2.1 dL_law_1360 rfl (lv_at hl 4 rfl) ?_
  refine lv_aload_n S.1 S.2.1 dL_law_1361 rfl (lv_at hl 2 rfl) ?_
  refine lv_iload S.1 S.2.1 dL_law_1362 (lv_at hl 1 rfl) ?_
  refine lv_iconst (v := 1) S.1 S.2.1 dL_law_1364 (by decide) ?_
  refine lv_iadd S.1 S.2.1 dL_law_1365 ?_
  obtain ⟨hi, h⟩ := d_g h
  refine va_sld S.1 S.2.1 hX hbl hbA hS (dIx_in hi) dL_law_1366 ?_
  refine lv_aload_n S.1 S.2.1 dL_law_1367 rfl (lv_at hl 2 rfl) ?_
  refine lv_iload S.1 S.2.1 dL_law_1368 (lv_at hl 1 rfl) ?_
  refine lv_iconst (v := 2) S.1 S.2.1 dL_law_1370 (by decide) ?_
  refine lv_iadd S.1 S.2.1 dL_law_1371 ?_
  obtain ⟨hi, h⟩ := d_g h
  refine va_sld S.1 S.2.1 hX hbl hbA hS (dIx_in hi) dL_law_1372 ?_
  refine lv_aload_n S.1 S.2.1 dL_law_1373 rfl (lv_at hl 2 rfl) ?_
  refine lv_iload S.1 S.2.1 dL_law_1374 (lv_at hl 1 rfl) ?_
  refine lv_iconst (v := 3) S.1 S.2.1 dL_law_1376 (by decide) ?_
  refine lv_iadd S.1 S.2.1 dL_law_1377 ?_
  obtain ⟨hi, h⟩ := d_g h
  refine va_sld S.1 S.2.1 hX hbl hbA hS (dIx_in hi) dL_law_1378 ?_
  refine lv_aload_n S.1 S.2.1 dL_law_1379 rfl (lv_at hl 2 rfl) ?_
  refine lv_iload S.1 S.2.1 dL_law_1380 (lv_at hl 1 rfl) ?_
  refine lv_iconst (v := 4) S.1 S.2.1 dL_law_1382 (by decide) ?_
  refine lv_iadd S.1 S.2.1 dL_law_1383 ?_
  obtain ⟨hi, h⟩ := d_g h
  refine va_sld S.1 S.2.1 hX hbl hbA hS (dIx_in hi) dL_law_1384 ?_
  refine lv_aload_n S.1 S.2.1 dL_law_1385 rfl (lv_at hl 2 rfl) ?_
  refine lv_iload S.1 S.2.1 dL_law_1386 (lv_at hl 1 rfl) ?_
  refine lv_iconst (v := 5) S.1 S.2.1 dL_law_1388 (by decide) ?_
  refine lv_iadd S.1 S.2.1 dL_law_1389 ?_
  obtain ⟨hi, h⟩ := d_g h
  refine va_sld S.1 S.2.1 hX hbl hbA hS (dIx_in hi) dL_law_1390 ?_
  obtain ⟨⟨v6, m5⟩, hc4, h⟩ := d_b h
  have h := d_p2 h
  refine dri (va_runV (As := [.int (xs (Int32.toNatClampNeg (i + 1))), .int (xs (Int32.toNatClampNeg (i + 2))), .int (xs (Int32.toNatClampNeg (i + 3))), .int (xs (Int32.toNatClampNeg (i + 4))), .int (xs (Int32.toNatClampNeg (i + 5)))]) (rest := []) S (kX12_caught l g hc4) (cwV 5 S.2.2.2.2 gL_law_X12_caught rfl rfl rfl ynX12_caught ⟨Nat.le_of_ble_eq_true rfl, Nat.le_of_ble_eq_true rfl⟩) (dpV hE hP hS (ci := 12) rfl (dat13 dk_444)) rfl rfl hl.1 rfl (lv_room (Nat.le_of_ble_eq_true rfl)) dL_law_1391 ⟨by omega, by omega⟩) hS (fun H locs hP hS => ?_)
  refine lv_istore (lv' := [(6, .int v6), (5, .int v3), (4, .int i), (0, .ref b), (1, .ref (dad g 0)), (2, .ref (dad g 444)), (3, .ref (dad g 463))]) S.1 S.2.1 dL_law_1394 hl (by decide) rfl (fun ls hl => ?_)
  refine lv_aload_n S.1 S.2.1 dL_law_1396 rfl (lv_at hl 5 rfl) ?_
  obtain ⟨v8, hc7, h⟩ := d_b h
  refine dri (va_runV (As := []) (rest := []) S (kX12_thrown l g hc7) (cwV 0 S.2.2.2.2 gL_law_X12_thrown rfl rfl rfl ynX12_thrown ⟨Nat.le_of_ble_eq_true rfl, Nat.le_of_ble_eq_true rfl⟩) (dpV hE hP hS (ci := 12) rfl (dat13 dk_444)) rfl rfl hl.1 rfl (lv_room (Nat.le_of_ble_eq_true rfl)) dL_law_1397 ⟨by omega, by omega⟩) hS (fun H locs hP hS => ?_)
  refine lv_iload S.1 S.2.1 dL_law_1400 (lv_at hl 1 rfl) ?_
  refine lv_icmp_eq (tgt := 1407) S.1 S.2.1 dL_law_1402 (by decide) (fun cq => ?_) (fun cq => ?_)
  · have h := d_t cq h
    refine lv_iload S.1 S.2.1 dL_law_1407 (lv_at hl 1 rfl) ?_
    refine lv_if_ne (tgt := 1431) S.1 S.2.1 dL_law_1409 (by decide) (fun cq => ?_) (fun cq => ?_)
    · have h := d_f cq h
      refine lv_goto (tgt := 1873) S.1 S.2.1 dL_law_1431 (by decide) ?_
      obtain rfl := Option.some.inj h
      exact kk H locs ls _ _ (by omega) (by omega) hP hS (lv_sub hl [2, 3, 4, 5, 6] rfl)
    · have h := d_t cq h
      refine lv_aload_n S.1 S.2.1 dL_law_1412 rfl (lv_at hl 6 rfl) ?_
      refine lv_iconst (v := 0) S.1 S.2.1 dL_law_1413 (by decide) ?_
      obtain ⟨hi, h⟩ := d_g h
      refine d_lald S hE hP dk_463 hi dL_law_1414 ?_
      refine lv_iload S.1 S.2.1 dL_law_1415 (lv_at hl 0 rfl) ?_
      refine lv_if_eq (tgt := 1424) S.1 S.2.1 dL_law_1417 (by decide) (fun cq => ?_) (fun cq => ?_)
      · have h := d_t cq h
        refine lv_lconst (v := 0) S.1 S.2.1 dL_law_1424 (by decide) ?_
        refine W.lcmp S.1 S.2.1 dL_law_1425 ?_
        refine lv_if_eq (tgt := 1431) S.1 S.2.1 dL_law_1426 (by decide) (fun cq => ?_) (fun cq => ?_)
        · have h := d_t cq h
          refine lv_goto (tgt := 1873) S.1 S.2.1 dL_law_1431 (by decide) ?_
          obtain rfl := Option.some.inj h
          exact kk H locs ls _ _ (by omega) (by omega) hP hS (lv_sub hl [2, 3, 4, 5, 6] rfl)
        · have h := d_f cq h
          cases h
      · have h := d_f cq h
        refine lv_lconst (v := 1) S.1 S.2.1 dL_law_1420 (by decide) ?_
        refine lv_goto (tgt := 1425) S.1 S.2.1 dL_law_1421 (by decide) ?_
        refine W.lcmp S.1 S.2.1 dL_law_1425 ?_
        refine lv_if_eq (tgt := 1431) S.1 S.2.1 dL_law_1426 (by decide) (fun cq => ?_) (fun cq => ?_)
        · have h := d_t cq h
          refine lv_goto (tgt := 1873) S.1 S.2.1 dL_law_1431 (by decide) ?_
          obtain rfl := Option.some.inj h
          exact kk H locs ls _ _ (by omega) (by omega) hP hS (lv_sub hl [2, 3, 4, 5, 6] rfl)
        · have h := d_f cq h
          cases h
  · have h := d_f cq h
    cases h
theorem dL_law_1434 : decode cL_law 1434 = .ok (.aload_n 1, 1) := by decide +kernel
theorem dL_law_1435 : decode cL_law 1435 = .ok (.aload_n 0, 1) := by decide +kernel
theorem dL_law_1436 : decode cL_law 1436 = .ok (.iload 4, 2) := by decide +kernel
theorem dL_law_1438 : decode cL_law 1438 = .ok (.iconst 1, 1) := by decide +kernel
theorem dL_law_1439 : decode cL_law 1439 = .ok (.iadd, 1) := by decide +kernel
theorem dL_law_1440 : decode cL_law 1440 = .ok (.iaload, 1) := by decide +kernel
theorem dL_law_1441 : decode cL_law 1441 = .ok (.aload_n 0, 1) := by decide +kernel
theorem dL_law_1442 : decode cL_law 1442 = .ok (.iload 4, 2) := by decide +kernel
theorem dL_law_1444 : decode cL_law 1444 = .ok (.iconst 2, 1) := by decide +kernel
theorem dL_law_1445 : decode cL_law 1445 = .ok (.iadd, 1) := by decide +kernel
theorem dL_law_1446 : decode cL_law 1446 = .ok (.iaload, 1) := by decide +kernel
theorem dL_law_1447 : decode cL_law 1447 = .ok (.aload_n 0, 1) := by decide +kernel
theorem dL_law_1448 : decode cL_law 1448 = .ok (.iload 4, 2) := by decide +kernel
theorem dL_law_1450 : decode cL_law 1450 = .ok (.iconst 3, 1) := by decide +kernel
theorem dL_law_1451 : decode cL_law 1451 = .ok (.iadd, 1) := by decide +kernel
theorem dL_law_1452 : decode cL_law 1452 = .ok (.iaload, 1) := by decide +kernel
theorem dL_law_1453 : decode cL_law 1453 = .ok (.aload_n 3, 1) := by decide +kernel
theorem dL_law_1454 : decode cL_law 1454 = .ok (.invokestatic 167, 3) := by decide +kernel
theorem dL_law_1457 : decode cL_law 1457 = .ok (.istore 5, 2) := by decide +kernel
theorem dL_law_1459 : decode cL_law 1459 = .ok (.aload_n 2, 1) := by decide +kernel
theorem dL_law_1460 : decode cL_law 1460 = .ok (.aload_n 0, 1) := by decide +kernel
theorem dL_law_1461 : decode cL_law 1461 = .ok (.iload 4, 2) := by decide +kernel
theorem dL_law_1463 : decode cL_law 1463 = .ok (.iconst 1, 1) := by decide +kernel
theorem dL_law_1464 : decode cL_law 1464 = .ok (.iadd, 1) := by decide +kernel
theorem dL_law_1465 : decode cL_law 1465 = .ok (.iaload, 1) := by decide +kernel
theorem dL_law_1466 : decode cL_law 1466 = .ok (.aload_n 0, 1) := by decide +kernel
theorem dL_law_1467 : decode cL_law 1467 = .ok (.iload 4, 2) := by decide +kernel
theorem dL_law_1469 : decode cL_law 1469 = .ok (.iconst 2, 1) := by decide +kernel
theorem dL_law_1470 : decode cL_law 1470 = .ok (.iadd, 1) := by decide +kernel
theorem dL_law_1471 : decode cL_law 1471 = .ok (.iaload, 1) := by decide +kernel
theorem dL_law_1472 : decode cL_law 1472 = .ok (.aload_n 0, 1) := by decide +kernel
theorem dL_law_1473 : decode cL_law 1473 = .ok (.iload 4, 2) := by decide +kernel
theorem dL_law_1475 : decode cL_law 1475 = .ok (.iconst 3, 1) := by decide +kernel
theorem dL_law_1476 : decode cL_law 1476 = .ok (.iadd, 1) := by decide +kernel
theorem dL_law_1477 : decode cL_law 1477 = .ok (.iaload, 1) := by decide +kernel
theorem dL_law_1478 : decode cL_law 1478 = .ok (.invokevirtual 169, 3) := by decide +kernel
theorem dL_law_1481 : decode cL_law 1481 = .ok (.istore 6, 2) := by decide +kernel
theorem dL_law_1483 : decode cL_law 1483 = .ok (.aload_n 2, 1) := by decide +kernel
theorem dL_law_1484 : decode cL_law 1484 = .ok (.invokevirtual 104, 3) := by decide +kernel
theorem dL_law_1487 : decode cL_law 1487 = .ok (.iload 5, 2) := by decide +kernel
theorem dL_law_1489 : decode cL_law 1489 = .ok (.if_icmp .eq 5, 3) := by decide +kernel
theorem dL_law_1492 : decode cL_law 1492 = .ok (.iconst 0, 1) := by decide +kernel
theorem dL_law_1493 : decode cL_law 1493 = .ok (.ireturn, 1) := by decide +kernel
theorem dL_law_1494 : decode cL_law 1494 = .ok (.iload 5, 2) := by decide +kernel
theorem dL_law_1496 : decode cL_law 1496 = .ok (.ifCond .ne 15, 3) := by decide +kernel
theorem dL_law_1499 : decode cL_law 1499 = .ok (.aload_n 3, 1) := by decide +kernel
theorem dL_law_1500 : decode cL_law 1500 = .ok (.iconst 0, 1) := by decide +kernel
theorem dL_law_1501 : decode cL_law 1501 = .ok (.laload, 1) := by decide +kernel
theorem dL_law_1502 : decode cL_law 1502 = .ok (.iload 6, 2) := by decide +kernel
theorem dL_law_1504 : decode cL_law 1504 = .ok (.i2l, 1) := by decide +kernel
theorem dL_law_1505 : decode cL_law 1505 = .ok (.lcmp, 1) := by decide +kernel
theorem dL_law_1506 : decode cL_law 1506 = .ok (.ifCond .eq 5, 3) := by decide +kernel
theorem dL_law_1509 : decode cL_law 1509 = .ok (.iconst 0, 1) := by decide +kernel
theorem dL_law_1510 : decode cL_law 1510 = .ok (.ireturn, 1) := by decide +kernel
theorem dL_law_1511 : decode cL_law 1511 = .ok (.goto 362, 3) := by decide +kernel
def fLaw_17 (xs : Nat → Int32) (nL : Nat) (i : Int32) (m : dM) : Option dM := dg (dIx (i + 1) nL) (dg (dIx (i + 2) nL) (dg (dIx (i + 3) nL) ((fL_page m 0 (xs (Int32.toNatClampNeg (i + 1))) (xs (Int32.toNatClampNeg (i + 2))) (xs (Int32.toNatClampNeg (i + 3))) 463).bind (fun q => dP2 q (fun v3 m2 => dg (dIx (i + 1) nL) (dg (dIx (i + 2) nL) (dg (dIx (i + 3) nL) ((fX12_page m2 444 (xs (Int32.toNatClampNeg (i + 1))) (xs (Int32.toNatClampNeg (i + 2))) (xs (Int32.toNatClampNeg (i + 3)))).bind (fun q => dP2 q (fun v6 m5 => (fX12_thrown m5 444).bind (fun v8 => if v8 = v3 then if v3 = 0 then dg (dIx 0 (dL 463)) (if (lg_cmp (m5.2 463 (Int32.toNatClampNeg (0))) (Int32.toInt64 v6)) = 0 then some m5 else none) else some m5 else none)))))))))))
set_option maxHeartbeats 4000000 in
set_option maxRecDepth 100000 in
theorem kLaw_17 {p : Program} {l : Launch} {e : Env} {s : State} {mth : MethodId} {below : List Frame} {meth : Method} {c : Code} {b nL : Nat} {xs : Nat → Int32} {g : dG} {Q : State → Prop} {H : Heap} {locs : List Loc} {cells slots : Nat} {ls : Array Slot} {i : Int32} {m m9 : dM} (hst : l.stackTraces = false) (S : CallFix p mth c cL_law 8 s #[Value.ref b] wsL_law RL) (hX : va_X b nL xs s s.heap) (hbl : b < s.heap.size) (hbA : ¬ dA g b) (hE : dEnv g s) (hR : cells + 6 ≤ room_1.cells ∧ slots + 36 ≤ room_1.slots) (h : fLaw_17 xs nL i m = some m9) (hP : va_P g.1 vwCl (dws g m) H) (hS : va_S (dA g) s.heap H locs) (hl : lv_has ls 8 [(4, .int i), (0, .ref b), (1, .ref (dad g 0)), (2, .ref (dad g 444)), (3, .ref (dad g 463))])
    (kk : ∀ (H : Heap) (locs : List Loc) (ls : Array Slot) (cells2 slots2 : Nat), cells2 ≤ cells + 6 → slots2 ≤ slots + 36 → va_P g.1 vwCl (dws g m9) H → va_S (dA g) s.heap H locs → lv_has ls 8 [(4, .int i), (0, .ref b), (1, .ref (dad g 0)), (2, .ref (dad g 444)), (3, .ref (dad g 463))] → W p l e room_1 s mth #[Value.ref b] below meth c H locs cells2 slots2 Q (F0 mth 1873 ls [])) : W p l e room_1 s mth #[Value.ref b] below meth c H locs cells slots Q (F0 mth 1434 ls []) := by
  obtain ⟨hR1, hR2⟩ := hR
  unfold fLaw_17 at h
  refine lv_aload_n S.1 S.2.1 dL_law_1434 rfl (lv_at hl 2 rfl) ?_
  refine lv_aload_n S.1 S.2.1 dL_law_1435 rfl (lv_at hl 1 rfl) ?_
  refine lv_iload S.1 S.2.1 dL_law_1436 (lv_at hl 0 rfl) ?_
  refine lv_iconst (v := 1) S.1 S.2.1 dL_law_1438 (by decide) ?_
  refine lv_iadd S.1 S.2.1 dL_law_1439 ?_
  obtain ⟨hi, h⟩ := d_g h
  refine va_sld S.1 S.2.1 hX hbl hbA hS (dIx_in hi) dL_law_1440 ?_
  refine lv_aload_n S.1 S.2.1 dL_law_1441 rfl (lv_at hl 1 rfl) ?_
  refine lv_iload S.1 S.2.1 dL_law_1442 (lv_at hl 0 rfl) ?_
  refine lv_iconst (v := 2) S.1 S.2.1 dL_law_1444 (by decide) ?_
  refine lv_iadd S.1 S.2.1 dL_law_1445 ?_
  obtain ⟨hi, h⟩ := d_g h
  refine va_sld S.1 S.2.1 hX hbl hbA hS (dIx_in hi) dL_law_1446 ?_
  refine lv_aload_n S.1 S.2.1 dL_law_1447 rfl (lv_at hl 1 rfl) ?_
  refine lv_iload S.1 S.2.1 dL_law_1448 (lv_at hl 0 rfl) ?_
  refine lv_iconst (v := 3) S.1 S.2.1 dL_law_1450 (by decide) ?_
  refine lv_iadd S.1 S.2.1 dL_law_1451 ?_
  obtain ⟨hi, h⟩ := d_g h
  refine va_sld S.1 S.2.1 hX hbl hbA hS (dIx_in hi) dL_law_1452 ?_
  refine lv_aload_n S.1 S.2.1 dL_law_1453 rfl (lv_at hl 4 rfl) ?_
  obtain ⟨⟨v3, m2⟩, hc1, h⟩ := d_b h
  have h := d_p2 h
  refine dLri (vx_runSX (As := [.ref (dad g 0), .int (xs (Int32.toNatClampNeg (i + 1))), .int (xs (Int32.toNatClampNeg (i + 2))), .int (xs (Int32.toNatClampNeg (i + 3))), .ref (dad g 463)]) (rest := []) S (kL_page l g hst hc1) (vx_cwSW 5 S.2.2.2.2 gL_law_L_page rfl rfl rfl ynL_page ⟨(Nat.le_of_ble_eq_true rfl), (Nat.le_of_ble_eq_true rfl)⟩) (dpS hE hP hS) rfl rfl hl.1 rfl (lv_room (Nat.le_of_ble_eq_true rfl)) dL_law_1454 ⟨by omega, by omega⟩) hS (fun H locs hP hS => ?_)
  refine lv_istore (lv' := [(5, .int v3), (4, .int i), (0, .ref b), (1, .ref (dad g 0)), (2, .ref (dad g 444)), (3, .ref (dad g 463))]) S.1 S.2.1 dL_law_1457 hl (by decide) rfl (fun ls hl => ?_)
  refine lv_aload_n S.1 S.2.1 dL_law_1459 rfl (lv_at hl 4 rfl) ?_
  refine lv_aload_n S.1 S.2.1 dL_law_1460 rfl (lv_at hl 2 rfl) ?_
  refine lv_iload S.1 S.2.1 dL_law_1461 (lv_at hl 1 rfl) ?_
  refine lv_iconst (v := 1) S.1 S.2.1 dL_law_1463 (by decide) ?_
  refine lv_iadd S.1 S.2.1 dL_law_1464 ?_
  obtain ⟨hi, h⟩ := d_g h
  refine va_sld S.1 S.2.1 hX hbl hbA hS (dIx_in hi) dL_law_1465 ?_
  refine lv_aload_n S.1 S.2.1 dL_law_1466 rfl (lv_at hl 2 rfl) ?_
  refine lv_iload S.1 S.2.1 dL_law_1467 (lv_at hl 1 rfl) ?_
  refine lv_iconst (v := 2) S.1 S.2.1 dL_law_1469 (by decide) ?_
  refine lv_iadd S.1 S.2.1 dL_law_1470 ?_
  obtain ⟨hi, h⟩ := d_g h
  refine va_sld S.1 S.2.1 hX hbl hbA hS (dIx_in hi) dL_law_1471 ?_
  refine lv_aload_n S.1 S.2.1 dL_law_1472 rfl (lv_at hl 2 rfl) ?_
  refine lv_iload S.1 S.2.1 dL_law_1473 (lv_at hl 1 rfl) ?_
  refine lv_iconst (v := 3) S.1 S.2.1 dL_law_1475 (by decide) ?_
  refine lv_iadd S.1 S.2.1 dL_law_1476 ?_
  obtain ⟨hi, h⟩ := d_g h
  refine va_sld S.1 S.2.1 hX hbl hbA hS (dIx_in hi) dL_law_1477 ?_
  obtain ⟨⟨v6, m5⟩, hc4, h⟩ := d_b h
  have h := d_p2 h
  refine dri (va_runV (As := [.int (xs (Int32.toNatClampNeg (i + 1))), .int (xs (Int32.toNatClampNeg (i + 2))), .int (xs (Int32.toNatClampNeg (i + 3)))]) (rest := []) S (kX12_page l g hc4) (cwV 3 S.2.2.2.2 gL_law_X12_page rfl rfl rfl ynX12_page ⟨Nat.le_of_ble_eq_true rfl, Nat.le_of_ble_eq_true rfl⟩) (dpV hE hP hS (ci := 12) rfl (dat13 dk_444)) rfl rfl hl.1 rfl (lv_room (Nat.le_of_ble_eq_true rfl)) dL_law_1478 ⟨by omega, by omega⟩) hS (fun H locs hP hS => ?_)
  refine lv_istore (lv' := [(6, .int v6), (5, .int v3), (4, .int i), (0, .ref b), (1, .ref (dad g 0)), (2, .ref (dad g 444)), (3, .ref (dad g 463))]) S.1 S.2.1 dL_law_1481 hl (by decide) rfl (fun ls hl => ?_)
  refine lv_aload_n S.1 S.2.1 dL_law_1483 rfl (lv_at hl 5 rfl) ?_
  obtain ⟨v8, hc7, h⟩ := d_b h
  refine dri (va_runV (As := []) (rest := []) S (kX12_thrown l g hc7) (cwV 0 S.2.2.2.2 gL_law_X12_thrown rfl rfl rfl ynX12_thrown ⟨Nat.le_of_ble_eq_true rfl, Nat.le_of_ble_eq_true rfl⟩) (dpV hE hP hS (ci := 12) rfl (dat13 dk_444)) rfl rfl hl.1 rfl (lv_room (Nat.le_of_ble_eq_true rfl)) dL_law_1484 ⟨by omega, by omega⟩) hS (fun H locs hP hS => ?_)
  refine lv_iload S.1 S.2.1 dL_law_1487 (lv_at hl 1 rfl) ?_
  refine lv_icmp_eq (tgt := 1494) S.1 S.2.1 dL_law_1489 (by decide) (fun cq => ?_) (fun cq => ?_)
  · have h := d_t cq h
    refine lv_iload S.1 S.2.1 dL_law_1494 (lv_at hl 1 rfl) ?_
    refine lv_if_ne (tgt := 1511) S.1 S.2.1 dL_law_1496 (by decide) (fun cq => ?_) (fun cq => ?_)
    · have h := d_f cq h
      refine lv_goto (tgt := 1873) S.1 S.2.1 dL_law_1511 (by decide) ?_
      obtain rfl := Option.some.inj h
      exact kk H locs ls _ _ (by omega) (by omega) hP hS (lv_sub hl [2, 3, 4, 5, 6] rfl)
    · have h := d_t cq h
      refine lv_aload_n S.1 S.2.1 dL_law_1499 rfl (lv_at hl 6 rfl) ?_
      refine lv_iconst (v := 0) S.1 S.2.1 dL_law_1500 (by decide) ?_
      obtain ⟨hi, h⟩ := d_g h
      refine d_lald S hE hP dk_463 hi dL_law_1501 ?_
      refine lv_iload S.1 S.2.1 dL_law_1502 (lv_at hl 0 rfl) ?_
      refine lv_i2l S.1 S.2.1 dL_law_1504 rfl ?_
      refine W.lcmp S.1 S.2.1 dL_law_1505 ?_
      refine lv_if_eq (tgt := 1511) S.1 S.2.1 dL_law_1506 (by decide) (fun cq => ?_) (fun cq => ?_)
      · have h := d_t cq h
        refine lv_goto (tgt := 1873) S.1 S.2.1 dL_law_1511 (by decide) ?_
        obtain rfl := Option.some.inj h
        exact kk H locs ls _ _ (by omega) (by omega) hP hS (lv_sub hl [2, 3, 4, 5, 6] rfl)
      · have h := d_f cq h
        cases h
  · have h := d_f cq h
    cases h
theorem dL_law_1514 : decode cL_law 1514 = .ok (.aload_n 1, 1) := by decide +kernel
theorem dL_law_1515 : decode cL_law 1515 = .ok (.invokevirtual 170, 3) := by decide +kernel
theorem dL_law_1518 : decode cL_law 1518 = .ok (.aload_n 2, 1) := by decide +kernel
theorem dL_law_1519 : decode cL_law 1519 = .ok (.invokevirtual 173, 3) := by decide +kernel
theorem dL_law_1522 : decode cL_law 1522 = .ok (.if_icmp .eq 351, 3) := by decide +kernel
theorem dL_law_1525 : decode cL_law 1525 = .ok (.iconst 0, 1) := by decide +kernel
theorem dL_law_1526 : decode cL_law 1526 = .ok (.ireturn, 1) := by decide +kernel
def fLaw_18 (xs : Nat → Int32) (nL : Nat) (i : Int32) (m : dM) : Option dM := (fX11_publish m 0).bind (fun q => dP2 q (fun v3 m2 => (fX12_publish m2 444).bind (fun q => dP2 q (fun v6 m5 => if v3 = v6 then some m5 else none))))
set_option maxHeartbeats 4000000 in
set_option maxRecDepth 100000 in
theorem kLaw_18 {p : Program} {l : Launch} {e : Env} {s : State} {mth : MethodId} {below : List Frame} {meth : Method} {c : Code} {b nL : Nat} {xs : Nat → Int32} {g : dG} {Q : State → Prop} {H : Heap} {locs : List Loc} {cells slots : Nat} {ls : Array Slot} {i : Int32} {m m9 : dM} (hst : l.stackTraces = false) (S : CallFix p mth c cL_law 8 s #[Value.ref b] wsL_law RL) (hX : va_X b nL xs s s.heap) (hbl : b < s.heap.size) (hbA : ¬ dA g b) (hE : dEnv g s) (hR : cells + 6 ≤ room_1.cells ∧ slots + 36 ≤ room_1.slots) (h : fLaw_18 xs nL i m = some m9) (hP : va_P g.1 vwCl (dws g m) H) (hS : va_S (dA g) s.heap H locs) (hl : lv_has ls 8 [(4, .int i), (0, .ref b), (1, .ref (dad g 0)), (2, .ref (dad g 444)), (3, .ref (dad g 463))])
    (kk : ∀ (H : Heap) (locs : List Loc) (ls : Array Slot) (cells2 slots2 : Nat), cells2 ≤ cells + 6 → slots2 ≤ slots + 36 → va_P g.1 vwCl (dws g m9) H → va_S (dA g) s.heap H locs → lv_has ls 8 [(4, .int i), (0, .ref b), (1, .ref (dad g 0)), (2, .ref (dad g 444)), (3, .ref (dad g 463))] → W p l e room_1 s mth #[Value.ref b] below meth c H locs cells2 slots2 Q (F0 mth 1873 ls [])) : W p l e room_1 s mth #[Value.ref b] below meth c H locs cells slots Q (F0 mth 1514 ls []) := by
  obtain ⟨hR1, hR2⟩ := hR
  unfold fLaw_18 at h
  refine lv_aload_n S.1 S.2.1 dL_law_1514 rfl (lv_at hl 2 rfl) ?_
  obtain ⟨⟨v3, m2⟩, hc1, h⟩ := d_b h
  have h := d_p2 h
  refine dri (va_runV (As := []) (rest := []) S (kX11_publish l g hc1) (cwV 0 S.2.2.2.2 gL_law_X11_publish rfl rfl rfl ynX11_publish ⟨Nat.le_of_ble_eq_true rfl, Nat.le_of_ble_eq_true rfl⟩) (dpV hE hP hS (ci := 11) rfl (dat12 dk_0)) rfl rfl hl.1 rfl (lv_room (Nat.le_of_ble_eq_true rfl)) dL_law_1515 ⟨by omega, by omega⟩) hS (fun H locs hP hS => ?_)
  refine lv_aload_n S.1 S.2.1 dL_law_1518 rfl (lv_at hl 3 rfl) ?_
  obtain ⟨⟨v6, m5⟩, hc4, h⟩ := d_b h
  have h := d_p2 h
  refine dri (va_runV (As := []) (rest := [.int v3]) S (kX12_publish l g hc4) (cwV 0 S.2.2.2.2 gL_law_X12_publish rfl rfl rfl ynX12_publish ⟨Nat.le_of_ble_eq_true rfl, Nat.le_of_ble_eq_true rfl⟩) (dpV hE hP hS (ci := 12) rfl (dat13 dk_444)) rfl rfl hl.1 rfl (lv_room (Nat.le_of_ble_eq_true rfl)) dL_law_1519 ⟨by omega, by omega⟩) hS (fun H locs hP hS => ?_)
  refine lv_icmp_eq (tgt := 1873) S.1 S.2.1 dL_law_1522 (by decide) (fun cq => ?_) (fun cq => ?_)
  · have h := d_t cq h
    obtain rfl := Option.some.inj h
    exact kk H locs ls _ _ (by omega) (by omega) hP hS (lv_sub hl [0, 1, 2, 3, 4] rfl)
  · have h := d_f cq h
    cases h
theorem dL_law_1527 : decode cL_law 1527 = .ok (.aload_n 1, 1) := by decide +kernel
theorem dL_law_1528 : decode cL_law 1528 = .ok (.invokevirtual 174, 3) := by decide +kernel
theorem dL_law_1531 : decode cL_law 1531 = .ok (.aload_n 2, 1) := by decide +kernel
theorem dL_law_1532 : decode cL_law 1532 = .ok (.invokevirtual 177, 3) := by decide +kernel
theorem dL_law_1535 : decode cL_law 1535 = .ok (.if_icmp .eq 338, 3) := by decide +kernel
theorem dL_law_1538 : decode cL_law 1538 = .ok (.iconst 0, 1) := by decide +kernel
theorem dL_law_1539 : decode cL_law 1539 = .ok (.ireturn, 1) := by decide +kernel
def fLaw_19 (xs : Nat → Int32) (nL : Nat) (i : Int32) (m : dM) : Option dM := (fX11_changed m 0).bind (fun v2 => (fX12_changed m 444).bind (fun q => dP2 q (fun v5 m4 => if v2 = v5 then some m4 else none)))
set_option maxHeartbeats 4000000 in
set_option maxRecDepth 100000 in
theorem kLaw_19 {p : Program} {l : Launch} {e : Env} {s : State} {mth : MethodId} {below : List Frame} {meth : Method} {c : Code} {b nL : Nat} {xs : Nat → Int32} {g : dG} {Q : State → Prop} {H : Heap} {locs : List Loc} {cells slots : Nat} {ls : Array Slot} {i : Int32} {m m9 : dM} (hst : l.stackTraces = false) (S : CallFix p mth c cL_law 8 s #[Value.ref b] wsL_law RL) (hX : va_X b nL xs s s.heap) (hbl : b < s.heap.size) (hbA : ¬ dA g b) (hE : dEnv g s) (hR : cells + 6 ≤ room_1.cells ∧ slots + 36 ≤ room_1.slots) (h : fLaw_19 xs nL i m = some m9) (hP : va_P g.1 vwCl (dws g m) H) (hS : va_S (dA g) s.heap H locs) (hl : lv_has ls 8 [(4, .int i), (0, .ref b), (1, .ref (dad g 0)), (2, .ref (dad g 444)), (3, .ref (dad g 463))])
    (kk : ∀ (H : Heap) (locs : List Loc) (ls : Array Slot) (cells2 slots2 : Nat), cells2 ≤ cells + 6 → slots2 ≤ slots + 36 → va_P g.1 vwCl (dws g m9) H → va_S (dA g) s.heap H locs → lv_has ls 8 [(4, .int i), (0, .ref b), (1, .ref (dad g 0)), (2, .ref (dad g 444)), (3, .ref (dad g 463))] → W p l e room_1 s mth #[Value.ref b] below meth c H locs cells2 slots2 Q (F0 mth 1873 ls [])) : W p l e room_1 s mth #[Value.ref b] below meth c H locs cells slots Q (F0 mth 1527 ls []) := by
  obtain ⟨hR1, hR2⟩ := hR
  unfold fLaw_19 at h
  refine lv_aload_n S.1 S.2.1 dL_law_1527 rfl (lv_at hl 2 rfl) ?_
  obtain ⟨v2, hc1, h⟩ := d_b h
  refine dri (va_runV (As := []) (rest := []) S (kX11_changed l g hc1) (cwV 0 S.2.2.2.2 gL_law_X11_changed rfl rfl rfl ynX11_changed ⟨Nat.le_of_ble_eq_true rfl, Nat.le_of_ble_eq_true rfl⟩) (dpV hE hP hS (ci := 11) rfl (dat12 dk_0)) rfl rfl hl.1 rfl (lv_room (Nat.le_of_ble_eq_true rfl)) dL_law_1528 ⟨by omega, by omega⟩) hS (fun H locs hP hS => ?_)
  refine lv_aload_n S.1 S.2.1 dL_law_1531 rfl (lv_at hl 3 rfl) ?_
  obtain ⟨⟨v5, m4⟩, hc3, h⟩ := d_b h
  have h := d_p2 h
  refine dri (va_runV (As := []) (rest := [.int v2]) S (kX12_changed l g hc3) (cwV 0 S.2.2.2.2 gL_law_X12_changed rfl rfl rfl ynX12_changed ⟨Nat.le_of_ble_eq_true rfl, Nat.le_of_ble_eq_true rfl⟩) (dpV hE hP hS (ci := 12) rfl (dat13 dk_444)) rfl rfl hl.1 rfl (lv_room (Nat.le_of_ble_eq_true rfl)) dL_law_1532 ⟨by omega, by omega⟩) hS (fun H locs hP hS => ?_)
  refine lv_icmp_eq (tgt := 1873) S.1 S.2.1 dL_law_1535 (by decide) (fun cq => ?_) (fun cq => ?_)
  · have h := d_t cq h
    obtain rfl := Option.some.inj h
    exact kk H locs ls _ _ (by omega) (by omega) hP hS (lv_sub hl [0, 1, 2, 3, 4] rfl)
  · have h := d_f cq h
    cases h
theorem dL_law_1540 : decode cL_law 1540 = .ok (.aload_n 1, 1) := by decide +kernel
theorem dL_law_1541 : decode cL_law 1541 = .ok (.invokevirtual 178, 3) := by decide +kernel
theorem dL_law_1544 : decode cL_law 1544 = .ok (.aload_n 2, 1) := by decide +kernel
theorem dL_law_1545 : decode cL_law 1545 = .ok (.invokevirtual 181, 3) := by decide +kernel
theorem dL_law_1548 : decode cL_law 1548 = .ok (.if_icmp .eq 325, 3) := by decide +kernel
theorem dL_law_1551 : decode cL_law 1551 = .ok (.iconst 0, 1) := by decide +kernel
theorem dL_law_1552 : decode cL_law 1552 = .ok (.ireturn, 1) := by decide +kernel
def fLaw_20 (xs : Nat → Int32) (nL : Nat) (i : Int32) (m : dM) : Option dM := (fX11_lasts m 0).bind (fun v2 => (fX12_lasts m 444).bind (fun q => dP2 q (fun v5 m4 => if v2 = v5 then some m4 else none)))
set_option maxHeartbeats 4000000 in
set_option maxRecDepth 100000 in
theorem kLaw_20 {p : Program} {l : Launch} {e : Env} {s : State} {mth : MethodId} {below : List Frame} {meth : Method} {c : Code} {b nL : Nat} {xs : Nat → Int32} {g : dG} {Q : State → Prop} {H : Heap} {locs : List Loc} {cells slots : Nat} {ls : Array Slot} {i : Int32} {m m9 : dM} (hst : l.stackTraces = false) (S : CallFix p mth c cL_law 8 s #[Value.ref b] wsL_law RL) (hX : va_X b nL xs s s.heap) (hbl : b < s.heap.size) (hbA : ¬ dA g b) (hE : dEnv g s) (hR : cells + 6 ≤ room_1.cells ∧ slots + 36 ≤ room_1.slots) (h : fLaw_20 xs nL i m = some m9) (hP : va_P g.1 vwCl (dws g m) H) (hS : va_S (dA g) s.heap H locs) (hl : lv_has ls 8 [(4, .int i), (0, .ref b), (1, .ref (dad g 0)), (2, .ref (dad g 444)), (3, .ref (dad g 463))])
    (kk : ∀ (H : Heap) (locs : List Loc) (ls : Array Slot) (cells2 slots2 : Nat), cells2 ≤ cells + 6 → slots2 ≤ slots + 36 → va_P g.1 vwCl (dws g m9) H → va_S (dA g) s.heap H locs → lv_has ls 8 [(4, .int i), (0, .ref b), (1, .ref (dad g 0)), (2, .ref (dad g 444)), (3, .ref (dad g 463))] → W p l e room_1 s mth #[Value.ref b] below meth c H locs cells2 slots2 Q (F0 mth 1873 ls [])) : W p l e room_1 s mth #[Value.ref b] below meth c H locs cells slots Q (F0 mth 1540 ls []) := by
  obtain ⟨hR1, hR2⟩ := hR
  unfold fLaw_20 at h
  refine lv_aload_n S.1 S.2.1 dL_law_1540 rfl (lv_at hl 2 rfl) ?_
  obtain ⟨v2, hc1, h⟩ := d_b h
  refine dri (va_runV (As := []) (rest := []) S (kX11_lasts l g hc1) (cwV 0 S.2.2.2.2 gL_law_X11_lasts rfl rfl rfl ynX11_lasts ⟨Nat.le_of_ble_eq_true rfl, Nat.le_of_ble_eq_true rfl⟩) (dpV hE hP hS (ci := 11) rfl (dat12 dk_0)) rfl rfl hl.1 rfl (lv_room (Nat.le_of_ble_eq_true rfl)) dL_law_1541 ⟨by omega, by omega⟩) hS (fun H locs hP hS => ?_)
  refine lv_aload_n S.1 S.2.1 dL_law_1544 rfl (lv_at hl 3 rfl) ?_
  obtain ⟨⟨v5, m4⟩, hc3, h⟩ := d_b h
  have h := d_p2 h
  refine dri (va_runV (As := []) (rest := [.int v2]) S (kX12_lasts l g hc3) (cwV 0 S.2.2.2.2 gL_law_X12_lasts rfl rfl rfl ynX12_lasts ⟨Nat.le_of_ble_eq_true rfl, Nat.le_of_ble_eq_true rfl⟩) (dpV hE hP hS (ci := 12) rfl (dat13 dk_444)) rfl rfl hl.1 rfl (lv_room (Nat.le_of_ble_eq_true rfl)) dL_law_1545 ⟨by omega, by omega⟩) hS (fun H locs hP hS => ?_)
  refine lv_icmp_eq (tgt := 1873) S.1 S.2.1 dL_law_1548 (by decide) (fun cq => ?_) (fun cq => ?_)
  · have h := d_t cq h
    obtain rfl := Option.some.inj h
    exact kk H locs ls _ _ (by omega) (by omega) hP hS (lv_sub hl [0, 1, 2, 3, 4] rfl)
  · have h := d_f cq h
    cases h
theorem dL_law_1553 : decode cL_law 1553 = .ok (.aload_n 1, 1) := by decide +kernel
theorem dL_law_1554 : decode cL_law 1554 = .ok (.aload_n 0, 1) := by decide +kernel
theorem dL_law_1555 : decode cL_law 1555 = .ok (.iload 4, 2) := by decide +kernel
theorem dL_law_1557 : decode cL_law 1557 = .ok (.iconst 1, 1) := by decide +kernel
theorem dL_law_1558 : decode cL_law 1558 = .ok (.iadd, 1) := by decide +kernel
theorem dL_law_1559 : decode cL_law 1559 = .ok (.iaload, 1) := by decide +kernel
theorem dL_law_1560 : decode cL_law 1560 = .ok (.aload_n 0, 1) := by decide +kernel
theorem dL_law_1561 : decode cL_law 1561 = .ok (.iload 4, 2) := by decide +kernel
theorem dL_law_1563 : decode cL_law 1563 = .ok (.iconst 2, 1) := by decide +kernel
theorem dL_law_1564 : decode cL_law 1564 = .ok (.iadd, 1) := by decide +kernel
theorem dL_law_1565 : decode cL_law 1565 = .ok (.iaload, 1) := by decide +kernel
theorem dL_law_1566 : decode cL_law 1566 = .ok (.invokestatic 182, 3) := by decide +kernel
theorem dL_law_1569 : decode cL_law 1569 = .ok (.istore 5, 2) := by decide +kernel
theorem dL_law_1571 : decode cL_law 1571 = .ok (.aload_n 2, 1) := by decide +kernel
theorem dL_law_1572 : decode cL_law 1572 = .ok (.aload_n 0, 1) := by decide +kernel
theorem dL_law_1573 : decode cL_law 1573 = .ok (.iload 4, 2) := by decide +kernel
theorem dL_law_1575 : decode cL_law 1575 = .ok (.iconst 1, 1) := by decide +kernel
theorem dL_law_1576 : decode cL_law 1576 = .ok (.iadd, 1) := by decide +kernel
theorem dL_law_1577 : decode cL_law 1577 = .ok (.iaload, 1) := by decide +kernel
theorem dL_law_1578 : decode cL_law 1578 = .ok (.aload_n 0, 1) := by decide +kernel
theorem dL_law_1579 : decode cL_law 1579 = .ok (.iload 4, 2) := by decide +kernel
theorem dL_law_1581 : decode cL_law 1581 = .ok (.iconst 2, 1) := by decide +kernel
theorem dL_law_1582 : decode cL_law 1582 = .ok (.iadd, 1) := by decide +kernel
theorem dL_law_1583 : decode cL_law 1583 = .ok (.iaload, 1) := by decide +kernel
theorem dL_law_1584 : decode cL_law 1584 = .ok (.invokevirtual 185, 3) := by decide +kernel
theorem dL_law_1587 : decode cL_law 1587 = .ok (.aload_n 2, 1) := by decide +kernel
theorem dL_law_1588 : decode cL_law 1588 = .ok (.invokevirtual 104, 3) := by decide +kernel
theorem dL_law_1591 : decode cL_law 1591 = .ok (.iload 5, 2) := by decide +kernel
theorem dL_law_1593 : decode cL_law 1593 = .ok (.if_icmp .eq 5, 3) := by decide +kernel
theorem dL_law_1596 : decode cL_law 1596 = .ok (.iconst 0, 1) := by decide +kernel
theorem dL_law_1597 : decode cL_law 1597 = .ok (.ireturn, 1) := by decide +kernel
theorem dL_law_1598 : decode cL_law 1598 = .ok (.goto 275, 3) := by decide +kernel
def fLaw_21 (xs : Nat → Int32) (nL : Nat) (i : Int32) (m : dM) : Option dM := dg (dIx (i + 1) nL) (dg (dIx (i + 2) nL) ((fL_clock m 0 (xs (Int32.toNatClampNeg (i + 1))) (xs (Int32.toNatClampNeg (i + 2)))).bind (fun q => dP2 q (fun v3 m2 => dg (dIx (i + 1) nL) (dg (dIx (i + 2) nL) ((fX12_clock m2 444 (xs (Int32.toNatClampNeg (i + 1))) (xs (Int32.toNatClampNeg (i + 2)))).bind (fun m5 => (fX12_thrown m5 444).bind (fun v7 => if v7 = v3 then some m5 else none))))))))
set_option maxHeartbeats 4000000 in
set_option maxRecDepth 100000 in
theorem kLaw_21 {p : Program} {l : Launch} {e : Env} {s : State} {mth : MethodId} {below : List Frame} {meth : Method} {c : Code} {b nL : Nat} {xs : Nat → Int32} {g : dG} {Q : State → Prop} {H : Heap} {locs : List Loc} {cells slots : Nat} {ls : Array Slot} {i : Int32} {m m9 : dM} (hst : l.stackTraces = false) (S : CallFix p mth c cL_law 8 s #[Value.ref b] wsL_law RL) (hX : va_X b nL xs s s.heap) (hbl : b < s.heap.size) (hbA : ¬ dA g b) (hE : dEnv g s) (hR : cells + 6 ≤ room_1.cells ∧ slots + 36 ≤ room_1.slots) (h : fLaw_21 xs nL i m = some m9) (hP : va_P g.1 vwCl (dws g m) H) (hS : va_S (dA g) s.heap H locs) (hl : lv_has ls 8 [(4, .int i), (0, .ref b), (1, .ref (dad g 0)), (2, .ref (dad g 444)), (3, .ref (dad g 463))])
    (kk : ∀ (H : Heap) (locs : List Loc) (ls : Array Slot) (cells2 slots2 : Nat), cells2 ≤ cells + 6 → slots2 ≤ slots + 36 → va_P g.1 vwCl (dws g m9) H → va_S (dA g) s.heap H locs → lv_has ls 8 [(4, .int i), (0, .ref b), (1, .ref (dad g 0)), (2, .ref (dad g 444)), (3, .ref (dad g 463))] → W p l e room_1 s mth #[Value.ref b] below meth c H locs cells2 slots2 Q (F0 mth 1873 ls [])) : W p l e room_1 s mth #[Value.ref b] below meth c H locs cells slots Q (F0 mth 1553 ls []) := by
  obtain ⟨hR1, hR2⟩ := hR
  unfold fLaw_21 at h
  refine lv_aload_n S.1 S.2.1 dL_law_1553 rfl (lv_at hl 2 rfl) ?_
  refine lv_aload_n S.1 S.2.1 dL_law_1554 rfl (lv_at hl 1 rfl) ?_
  refine lv_iload S.1 S.2.1 dL_law_1555 (lv_at hl 0 rfl) ?_
  refine lv_iconst (v := 1) S.1 S.2.1 dL_law_1557 (by decide) ?_
  refine lv_iadd S.1 S.2.1 dL_law_1558 ?_
  obtain ⟨hi, h⟩ := d_g h
  refine va_sld S.1 S.2.1 hX hbl hbA hS (dIx_in hi) dL_law_1559 ?_
  refine lv_aload_n S.1 S.2.1 dL_law_1560 rfl (lv_at hl 1 rfl) ?_
  refine lv_iload S.1 S.2.1 dL_law_1561 (lv_at hl 0 rfl) ?_
  refine lv_iconst (v := 2) S.1 S.2.1 dL_law_1563 (by decide) ?_
  refine lv_iadd S.1 S.2.1 dL_law_1564 ?_
  obtain ⟨hi, h⟩ := d_g h
  refine va_sld S.1 S.2.1 hX hbl hbA hS (dIx_in hi) dL_law_1565 ?_
  obtain ⟨⟨v3, m2⟩, hc1, h⟩ := d_b h
  have h := d_p2 h
  refine dLri (vx_runSX (As := [.ref (dad g 0), .int (xs (Int32.toNatClampNeg (i + 1))), .int (xs (Int32.toNatClampNeg (i + 2)))]) (rest := []) S (kL_clock l g hst hc1) (vx_cwSW 3 S.2.2.2.2 gL_law_L_clock rfl rfl rfl ynL_clock ⟨(Nat.le_of_ble_eq_true rfl), (Nat.le_of_ble_eq_true rfl)⟩) (dpS hE hP hS) rfl rfl hl.1 rfl (lv_room (Nat.le_of_ble_eq_true rfl)) dL_law_1566 ⟨by omega, by omega⟩) hS (fun H locs hP hS => ?_)
  refine lv_istore (lv' := [(5, .int v3), (4, .int i), (0, .ref b), (1, .ref (dad g 0)), (2, .ref (dad g 444)), (3, .ref (dad g 463))]) S.1 S.2.1 dL_law_1569 hl (by decide) rfl (fun ls hl => ?_)
  refine lv_aload_n S.1 S.2.1 dL_law_1571 rfl (lv_at hl 4 rfl) ?_
  refine lv_aload_n S.1 S.2.1 dL_law_1572 rfl (lv_at hl 2 rfl) ?_
  refine lv_iload S.1 S.2.1 dL_law_1573 (lv_at hl 1 rfl) ?_
  refine lv_iconst (v := 1) S.1 S.2.1 dL_law_1575 (by decide) ?_
  refine lv_iadd S.1 S.2.1 dL_law_1576 ?_
  obtain ⟨hi, h⟩ := d_g h
  refine va_sld S.1 S.2.1 hX hbl hbA hS (dIx_in hi) dL_law_1577 ?_
  refine lv_aload_n S.1 S.2.1 dL_law_1578 rfl (lv_at hl 2 rfl) ?_
  refine lv_iload S.1 S.2.1 dL_law_1579 (lv_at hl 1 rfl) ?_
  refine lv_iconst (v := 2) S.1 S.2.1 dL_law_1581 (by decide) ?_
  refine lv_iadd S.1 S.2.1 dL_law_1582 ?_
  obtain ⟨hi, h⟩ := d_g h
  refine va_sld S.1 S.2.1 hX hbl hbA hS (dIx_in hi) dL_law_1583 ?_
  obtain ⟨m5, hc4, h⟩ := d_b h
  refine drv (va_runV (As := [.int (xs (Int32.toNatClampNeg (i + 1))), .int (xs (Int32.toNatClampNeg (i + 2)))]) (rest := []) S (kX12_clock l g hc4) (cwV 2 S.2.2.2.2 gL_law_X12_clock rfl rfl rfl ynX12_clock ⟨Nat.le_of_ble_eq_true rfl, Nat.le_of_ble_eq_true rfl⟩) (dpV hE hP hS (ci := 12) rfl (dat13 dk_444)) rfl rfl hl.1 rfl (lv_room (Nat.le_of_ble_eq_true rfl)) dL_law_1584 ⟨by omega, by omega⟩) hS (fun H locs hP hS => ?_)
  refine lv_aload_n S.1 S.2.1 dL_law_1587 rfl (lv_at hl 4 rfl) ?_
  obtain ⟨v7, hc6, h⟩ := d_b h
  refine dri (va_runV (As := []) (rest := []) S (kX12_thrown l g hc6) (cwV 0 S.2.2.2.2 gL_law_X12_thrown rfl rfl rfl ynX12_thrown ⟨Nat.le_of_ble_eq_true rfl, Nat.le_of_ble_eq_true rfl⟩) (dpV hE hP hS (ci := 12) rfl (dat13 dk_444)) rfl rfl hl.1 rfl (lv_room (Nat.le_of_ble_eq_true rfl)) dL_law_1588 ⟨by omega, by omega⟩) hS (fun H locs hP hS => ?_)
  refine lv_iload S.1 S.2.1 dL_law_1591 (lv_at hl 0 rfl) ?_
  refine lv_icmp_eq (tgt := 1598) S.1 S.2.1 dL_law_1593 (by decide) (fun cq => ?_) (fun cq => ?_)
  · have h := d_t cq h
    refine lv_goto (tgt := 1873) S.1 S.2.1 dL_law_1598 (by decide) ?_
    obtain rfl := Option.some.inj h
    exact kk H locs ls _ _ (by omega) (by omega) hP hS (lv_sub hl [1, 2, 3, 4, 5] rfl)
  · have h := d_f cq h
    cases h
theorem dL_law_1601 : decode cL_law 1601 = .ok (.aload_n 1, 1) := by decide +kernel
theorem dL_law_1602 : decode cL_law 1602 = .ok (.aload_n 0, 1) := by decide +kernel
theorem dL_law_1603 : decode cL_law 1603 = .ok (.iload 4, 2) := by decide +kernel
theorem dL_law_1605 : decode cL_law 1605 = .ok (.iconst 1, 1) := by decide +kernel
theorem dL_law_1606 : decode cL_law 1606 = .ok (.iadd, 1) := by decide +kernel
theorem dL_law_1607 : decode cL_law 1607 = .ok (.iaload, 1) := by decide +kernel
theorem dL_law_1608 : decode cL_law 1608 = .ok (.aload_n 0, 1) := by decide +kernel
theorem dL_law_1609 : decode cL_law 1609 = .ok (.iload 4, 2) := by decide +kernel
theorem dL_law_1611 : decode cL_law 1611 = .ok (.iconst 2, 1) := by decide +kernel
theorem dL_law_1612 : decode cL_law 1612 = .ok (.iadd, 1) := by decide +kernel
theorem dL_law_1613 : decode cL_law 1613 = .ok (.iaload, 1) := by decide +kernel
theorem dL_law_1614 : decode cL_law 1614 = .ok (.aload_n 0, 1) := by decide +kernel
theorem dL_law_1615 : decode cL_law 1615 = .ok (.iload 4, 2) := by decide +kernel
theorem dL_law_1617 : decode cL_law 1617 = .ok (.iconst 3, 1) := by decide +kernel
theorem dL_law_1618 : decode cL_law 1618 = .ok (.iadd, 1) := by decide +kernel
theorem dL_law_1619 : decode cL_law 1619 = .ok (.iaload, 1) := by decide +kernel
theorem dL_law_1620 : decode cL_law 1620 = .ok (.aload_n 3, 1) := by decide +kernel
theorem dL_law_1621 : decode cL_law 1621 = .ok (.invokestatic 186, 3) := by decide +kernel
theorem dL_law_1624 : decode cL_law 1624 = .ok (.istore 5, 2) := by decide +kernel
theorem dL_law_1626 : decode cL_law 1626 = .ok (.aload_n 2, 1) := by decide +kernel
theorem dL_law_1627 : decode cL_law 1627 = .ok (.aload_n 0, 1) := by decide +kernel
theorem dL_law_1628 : decode cL_law 1628 = .ok (.iload 4, 2) := by decide +kernel
theorem dL_law_1630 : decode cL_law 1630 = .ok (.iconst 1, 1) := by decide +kernel
theorem dL_law_1631 : decode cL_law 1631 = .ok (.iadd, 1) := by decide +kernel
theorem dL_law_1632 : decode cL_law 1632 = .ok (.iaload, 1) := by decide +kernel
theorem dL_law_1633 : decode cL_law 1633 = .ok (.aload_n 0, 1) := by decide +kernel
theorem dL_law_1634 : decode cL_law 1634 = .ok (.iload 4, 2) := by decide +kernel
theorem dL_law_1636 : decode cL_law 1636 = .ok (.iconst 2, 1) := by decide +kernel
theorem dL_law_1637 : decode cL_law 1637 = .ok (.iadd, 1) := by decide +kernel
theorem dL_law_1638 : decode cL_law 1638 = .ok (.iaload, 1) := by decide +kernel
theorem dL_law_1639 : decode cL_law 1639 = .ok (.aload_n 0, 1) := by decide +kernel
theorem dL_law_1640 : decode cL_law 1640 = .ok (.iload 4, 2) := by decide +kernel
theorem dL_law_1642 : decode cL_law 1642 = .ok (.iconst 3, 1) := by decide +kernel
theorem dL_law_1643 : decode cL_law 1643 = .ok (.iadd, 1) := by decide +kernel
theorem dL_law_1644 : decode cL_law 1644 = .ok (.iaload, 1) := by decide +kernel
theorem dL_law_1645 : decode cL_law 1645 = .ok (.invokevirtual 188, 3) := by decide +kernel
theorem dL_law_1648 : decode cL_law 1648 = .ok (.istore 6, 2) := by decide +kernel
theorem dL_law_1650 : decode cL_law 1650 = .ok (.aload_n 2, 1) := by decide +kernel
theorem dL_law_1651 : decode cL_law 1651 = .ok (.invokevirtual 104, 3) := by decide +kernel
theorem dL_law_1654 : decode cL_law 1654 = .ok (.iload 5, 2) := by decide +kernel
theorem dL_law_1656 : decode cL_law 1656 = .ok (.if_icmp .eq 5, 3) := by decide +kernel
theorem dL_law_1659 : decode cL_law 1659 = .ok (.iconst 0, 1) := by decide +kernel
theorem dL_law_1660 : decode cL_law 1660 = .ok (.ireturn, 1) := by decide +kernel
theorem dL_law_1661 : decode cL_law 1661 = .ok (.iload 5, 2) := by decide +kernel
theorem dL_law_1663 : decode cL_law 1663 = .ok (.ifCond .ne 15, 3) := by decide +kernel
theorem dL_law_1666 : decode cL_law 1666 = .ok (.aload_n 3, 1) := by decide +kernel
theorem dL_law_1667 : decode cL_law 1667 = .ok (.iconst 0, 1) := by decide +kernel
theorem dL_law_1668 : decode cL_law 1668 = .ok (.laload, 1) := by decide +kernel
theorem dL_law_1669 : decode cL_law 1669 = .ok (.iload 6, 2) := by decide +kernel
theorem dL_law_1671 : decode cL_law 1671 = .ok (.i2l, 1) := by decide +kernel
theorem dL_law_1672 : decode cL_law 1672 = .ok (.lcmp, 1) := by decide +kernel
theorem dL_law_1673 : decode cL_law 1673 = .ok (.ifCond .eq 5, 3) := by decide +kernel
theorem dL_law_1676 : decode cL_law 1676 = .ok (.iconst 0, 1) := by decide +kernel
theorem dL_law_1677 : decode cL_law 1677 = .ok (.ireturn, 1) := by decide +kernel
theorem dL_law_1678 : decode cL_law 1678 = .ok (.goto 195, 3) := by decide +kernel
def fLaw_22 (xs : Nat → Int32) (nL : Nat) (i : Int32) (m : dM) : Option dM := dg (dIx (i + 1) nL) (dg (dIx (i + 2) nL) (dg (dIx (i + 3) nL) ((fL_judge m 0 (xs (Int32.toNatClampNeg (i + 1))) (xs (Int32.toNatClampNeg (i + 2))) (xs (Int32.toNatClampNeg (i + 3))) 463).bind (fun q => dP2 q (fun v3 m2 => dg (dIx (i + 1) nL) (dg (dIx (i + 2) nL) (dg (dIx (i + 3) nL) ((fX12_judge m2 444 (xs (Int32.toNatClampNeg (i + 1))) (xs (Int32.toNatClampNeg (i + 2))) (xs (Int32.toNatClampNeg (i + 3)))).bind (fun q => dP2 q (fun v6 m5 => (fX12_thrown m5 444).bind (fun v8 => if v8 = v3 then if v3 = 0 then dg (dIx 0 (dL 463)) (if (lg_cmp (m5.2 463 (Int32.toNatClampNeg (0))) (Int32.toInt64 v6)) = 0 then some m5 else none) else some m5 else none)))))))))))
set_option maxHeartbeats 4000000 in
set_option maxRecDepth 100000 in
theorem kLaw_22 {p : Program} {l : Launch} {e : Env} {s : State} {mth : MethodId} {below : List Frame} {meth : Method} {c : Code} {b nL : Nat} {xs : Nat → Int32} {g : dG} {Q : State → Prop} {H : Heap} {locs : List Loc} {cells slots : Nat} {ls : Array Slot} {i : Int32} {m m9 : dM} (hst : l.stackTraces = false) (S : CallFix p mth c cL_law 8 s #[Value.ref b] wsL_law RL) (hX : va_X b nL xs s s.heap) (hbl : b < s.heap.size) (hbA : ¬ dA g b) (hE : dEnv g s) (hR : cells + 6 ≤ room_1.cells ∧ slots + 36 ≤ room_1.slots) (h : fLaw_22 xs nL i m = some m9) (hP : va_P g.1 vwCl (dws g m) H) (hS : va_S (dA g) s.heap H locs) (hl : lv_has ls 8 [(4, .int i), (0, .ref b), (1, .ref (dad g 0)), (2, .ref (dad g 444)), (3, .ref (dad g 463))])
    (kk : ∀ (H : Heap) (locs : List Loc) (ls : Array Slot) (cells2 slots2 : Nat), cells2 ≤ cells + 6 → slots2 ≤ slots + 36 → va_P g.1 vwCl (dws g m9) H → va_S (dA g) s.heap H locs → lv_has ls 8 [(4, .int i), (0, .ref b), (1, .ref (dad g 0)), (2, .ref (dad g 444)), (3, .ref (dad g 463))] → W p l e room_1 s mth #[Value.ref b] below meth c H locs cells2 slots2 Q (F0 mth 1873 ls [])) : W p l e room_1 s mth #[Value.ref b] below meth c H locs cells slots Q (F0 mth 1601 ls []) := by
  obtain ⟨hR1, hR2⟩ := hR
  unfold fLaw_22 at h
  refine lv_aload_n S.1 S.2.1 dL_law_1601 rfl (lv_at hl 2 rfl) ?_
  refine lv_aload_n S.1 S.2.1 dL_law_1602 rfl (lv_at hl 1 rfl) ?_
  refine lv_iload S.1 S.2.1 dL_law_1603 (lv_at hl 0 rfl) ?_
  refine lv_iconst (v := 1) S.1 S.2.1 dL_law_1605 (by decide) ?_
  refine lv_iadd S.1 S.2.1 dL_law_1606 ?_
  obtain ⟨hi, h⟩ := d_g h
  refine va_sld S.1 S.2.1 hX hbl hbA hS (dIx_in hi) dL_law_1607 ?_
  refine lv_aload_n S.1 S.2.1 dL_law_1608 rfl (lv_at hl 1 rfl) ?_
  refine lv_iload S.1 S.2.1 dL_law_1609 (lv_at hl 0 rfl) ?_
  refine lv_iconst (v := 2) S.1 S.2.1 dL_law_1611 (by decide) ?_
  refine lv_iadd S.1 S.2.1 dL_law_1612 ?_
  obtain ⟨hi, h⟩ := d_g h
  refine va_sld S.1 S.2.1 hX hbl hbA hS (dIx_in hi) dL_law_1613 ?_
  refine lv_aload_n S.1 S.2.1 dL_law_1614 rfl (lv_at hl 1 rfl) ?_
  refine lv_iload S.1 S.2.1 dL_law_1615 (lv_at hl 0 rfl) ?_
  refine lv_iconst (v := 3) S.1 S.2.1 dL_law_1617 (by decide) ?_
  refine lv_iadd S.1 S.2.1 dL_law_1618 ?_
  obtain ⟨hi, h⟩ := d_g h
  refine va_sld S.1 S.2.1 hX hbl hbA hS (dIx_in hi) dL_law_1619 ?_
  refine lv_aload_n S.1 S.2.1 dL_law_1620 rfl (lv_at hl 4 rfl) ?_
  obtain ⟨⟨v3, m2⟩, hc1, h⟩ := d_b h
  have h := d_p2 h
  refine dLri (vx_runSX (As := [.ref (dad g 0), .int (xs (Int32.toNatClampNeg (i + 1))), .int (xs (Int32.toNatClampNeg (i + 2))), .int (xs (Int32.toNatClampNeg (i + 3))), .ref (dad g 463)]) (rest := []) S (kL_judge l g hst hc1) (vx_cwSW 5 S.2.2.2.2 gL_law_L_judge rfl rfl rfl ynL_judge ⟨(Nat.le_of_ble_eq_true rfl), (Nat.le_of_ble_eq_true rfl)⟩) (dpS hE hP hS) rfl rfl hl.1 rfl (lv_room (Nat.le_of_ble_eq_true rfl)) dL_law_1621 ⟨by omega, by omega⟩) hS (fun H locs hP hS => ?_)
  refine lv_istore (lv' := [(5, .int v3), (4, .int i), (0, .ref b), (1, .ref (dad g 0)), (2, .ref (dad g 444)), (3, .ref (dad g 463))]) S.1 S.2.1 dL_law_1624 hl (by decide) rfl (fun ls hl => ?_)
  refine lv_aload_n S.1 S.2.1 dL_law_1626 rfl (lv_at hl 4 rfl) ?_
  refine lv_aload_n S.1 S.2.1 dL_law_1627 rfl (lv_at hl 2 rfl) ?_
  refine lv_iload S.1 S.2.1 dL_law_1628 (lv_at hl 1 rfl) ?_
  refine lv_iconst (v := 1) S.1 S.2.1 dL_law_1630 (by decide) ?_
  refine lv_iadd S.1 S.2.1 dL_law_1631 ?_
  obtain ⟨hi, h⟩ := d_g h
  refine va_sld S.1 S.2.1 hX hbl hbA hS (dIx_in hi) dL_law_1632 ?_
  refine lv_aload_n S.1 S.2.1 dL_law_1633 rfl (lv_at hl 2 rfl) ?_
  refine lv_iload S.1 S.2.1 dL_law_1634 (lv_at hl 1 rfl) ?_
  refine lv_iconst (v := 2) S.1 S.2.1 dL_law_1636 (by decide) ?_
  refine lv_iadd S.1 S.2.1 dL_law_1637 ?_
  obtain ⟨hi, h⟩ := d_g h
  refine va_sld S.1 S.2.1 hX hbl hbA hS (dIx_in hi) dL_law_1638 ?_
  refine lv_aload_n S.1 S.2.1 dL_law_1639 rfl (lv_at hl 2 rfl) ?_
  refine lv_iload S.1 S.2.1 dL_law_1640 (lv_at hl 1 rfl) ?_
  refine lv_iconst (v := 3) S.1 S.2.1 dL_law_1642 (by decide) ?_
  refine lv_iadd S.1 S.2.1 dL_law_1643 ?_
  obtain ⟨hi, h⟩ := d_g h
  refine va_sld S.1 S.2.1 hX hbl hbA hS (dIx_in hi) dL_law_1644 ?_
  obtain ⟨⟨v6, m5⟩, hc4, h⟩ := d_b h
  have h := d_p2 h
  refine dri (va_runV (As := [.int (xs (Int32.toNatClampNeg (i + 1))), .int (xs (Int32.toNatClampNeg (i + 2))), .int (xs (Int32.toNatClampNeg (i + 3)))]) (rest := []) S (kX12_judge l g hc4) (cwV 3 S.2.2.2.2 gL_law_X12_judge rfl rfl rfl ynX12_judge ⟨Nat.le_of_ble_eq_true rfl, Nat.le_of_ble_eq_true rfl⟩) (dpV hE hP hS (ci := 12) rfl (dat13 dk_444)) rfl rfl hl.1 rfl (lv_room (Nat.le_of_ble_eq_true rfl)) dL_law_1645 ⟨by omega, by omega⟩) hS (fun H locs hP hS => ?_)
  refine lv_istore (lv' := [(6, .int v6), (5, .int v3), (4, .int i), (0, .ref b), (1, .ref (dad g 0)), (2, .ref (dad g 444)), (3, .ref (dad g 463))]) S.1 S.2.1 dL_law_1648 hl (by decide) rfl (fun ls hl => ?_)
  refine lv_aload_n S.1 S.2.1 dL_law_1650 rfl (lv_at hl 5 rfl) ?_
  obtain ⟨v8, hc7, h⟩ := d_b h
  refine dri (va_runV (As := []) (rest := []) S (kX12_thrown l g hc7) (cwV 0 S.2.2.2.2 gL_law_X12_thrown rfl rfl rfl ynX12_thrown ⟨Nat.le_of_ble_eq_true rfl, Nat.le_of_ble_eq_true rfl⟩) (dpV hE hP hS (ci := 12) rfl (dat13 dk_444)) rfl rfl hl.1 rfl (lv_room (Nat.le_of_ble_eq_true rfl)) dL_law_1651 ⟨by omega, by omega⟩) hS (fun H locs hP hS => ?_)
  refine lv_iload S.1 S.2.1 dL_law_1654 (lv_at hl 1 rfl) ?_
  refine lv_icmp_eq (tgt := 1661) S.1 S.2.1 dL_law_1656 (by decide) (fun cq => ?_) (fun cq => ?_)
  · have h := d_t cq h
    refine lv_iload S.1 S.2.1 dL_law_1661 (lv_at hl 1 rfl) ?_
    refine lv_if_ne (tgt := 1678) S.1 S.2.1 dL_law_1663 (by decide) (fun cq => ?_) (fun cq => ?_)
    · have h := d_f cq h
      refine lv_goto (tgt := 1873) S.1 S.2.1 dL_law_1678 (by decide) ?_
      obtain rfl := Option.some.inj h
      exact kk H locs ls _ _ (by omega) (by omega) hP hS (lv_sub hl [2, 3, 4, 5, 6] rfl)
    · have h := d_t cq h
      refine lv_aload_n S.1 S.2.1 dL_law_1666 rfl (lv_at hl 6 rfl) ?_
      refine lv_iconst (v := 0) S.1 S.2.1 dL_law_1667 (by decide) ?_
      obtain ⟨hi, h⟩ := d_g h
      refine d_lald S hE hP dk_463 hi dL_law_1668 ?_
      refine lv_iload S.1 S.2.1 dL_law_1669 (lv_at hl 0 rfl) ?_
      refine lv_i2l S.1 S.2.1 dL_law_1671 rfl ?_
      refine W.lcmp S.1 S.2.1 dL_law_1672 ?_
      refine lv_if_eq (tgt := 1678) S.1 S.2.1 dL_law_1673 (by decide) (fun cq => ?_) (fun cq => ?_)
      · have h := d_t cq h
        refine lv_goto (tgt := 1873) S.1 S.2.1 dL_law_1678 (by decide) ?_
        obtain rfl := Option.some.inj h
        exact kk H locs ls _ _ (by omega) (by omega) hP hS (lv_sub hl [2, 3, 4, 5, 6] rfl)
      · have h := d_f cq h
        cases h
  · have h := d_f cq h
    cases h
theorem dL_law_1681 : decode cL_law 1681 = .ok (.aload_n 1, 1) := by decide +kernel
theorem dL_law_1682 : decode cL_law 1682 = .ok (.aload_n 0, 1) := by decide +kernel
theorem dL_law_1683 : decode cL_law 1683 = .ok (.iload 4, 2) := by decide +kernel
theorem dL_law_1685 : decode cL_law 1685 = .ok (.iconst 1, 1) := by decide +kernel
theorem dL_law_1686 : decode cL_law 1686 = .ok (.iadd, 1) := by decide +kernel
theorem dL_law_1687 : decode cL_law 1687 = .ok (.iaload, 1) := by decide +kernel
theorem dL_law_1688 : decode cL_law 1688 = .ok (.aload_n 0, 1) := by decide +kernel
theorem dL_law_1689 : decode cL_law 1689 = .ok (.iload 4, 2) := by decide +kernel
theorem dL_law_1691 : decode cL_law 1691 = .ok (.iconst 2, 1) := by decide +kernel
theorem dL_law_1692 : decode cL_law 1692 = .ok (.iadd, 1) := by decide +kernel
theorem dL_law_1693 : decode cL_law 1693 = .ok (.iaload, 1) := by decide +kernel
theorem dL_law_1694 : decode cL_law 1694 = .ok (.aload_n 3, 1) := by decide +kernel
theorem dL_law_1695 : decode cL_law 1695 = .ok (.invokestatic 189, 3) := by decide +kernel
theorem dL_law_1698 : decode cL_law 1698 = .ok (.istore 5, 2) := by decide +kernel
theorem dL_law_1700 : decode cL_law 1700 = .ok (.aload_n 2, 1) := by decide +kernel
theorem dL_law_1701 : decode cL_law 1701 = .ok (.aload_n 0, 1) := by decide +kernel
theorem dL_law_1702 : decode cL_law 1702 = .ok (.iload 4, 2) := by decide +kernel
theorem dL_law_1704 : decode cL_law 1704 = .ok (.iconst 1, 1) := by decide +kernel
theorem dL_law_1705 : decode cL_law 1705 = .ok (.iadd, 1) := by decide +kernel
theorem dL_law_1706 : decode cL_law 1706 = .ok (.iaload, 1) := by decide +kernel
theorem dL_law_1707 : decode cL_law 1707 = .ok (.aload_n 0, 1) := by decide +kernel
theorem dL_law_1708 : decode cL_law 1708 = .ok (.iload 4, 2) := by decide +kernel
theorem dL_law_1710 : decode cL_law 1710 = .ok (.iconst 2, 1) := by decide +kernel
theorem dL_law_1711 : decode cL_law 1711 = .ok (.iadd, 1) := by decide +kernel
theorem dL_law_1712 : decode cL_law 1712 = .ok (.iaload, 1) := by decide +kernel
theorem dL_law_1713 : decode cL_law 1713 = .ok (.invokevirtual 191, 3) := by decide +kernel
theorem dL_law_1716 : decode cL_law 1716 = .ok (.istore 6, 2) := by decide +kernel
theorem dL_law_1718 : decode cL_law 1718 = .ok (.aload_n 2, 1) := by decide +kernel
theorem dL_law_1719 : decode cL_law 1719 = .ok (.invokevirtual 104, 3) := by decide +kernel
theorem dL_law_1722 : decode cL_law 1722 = .ok (.iload 5, 2) := by decide +kernel
theorem dL_law_1724 : decode cL_law 1724 = .ok (.if_icmp .eq 5, 3) := by decide +kernel
theorem dL_law_1727 : decode cL_law 1727 = .ok (.iconst 0, 1) := by decide +kernel
theorem dL_law_1728 : decode cL_law 1728 = .ok (.ireturn, 1) := by decide +kernel
theorem dL_law_1729 : decode cL_law 1729 = .ok (.iload 5, 2) := by decide +kernel
theorem dL_law_1731 : decode cL_law 1731 = .ok (.ifCond .ne 15, 3) := by decide +kernel
theorem dL_law_1734 : decode cL_law 1734 = .ok (.aload_n 3, 1) := by decide +kernel
theorem dL_law_1735 : decode cL_law 1735 = .ok (.iconst 0, 1) := by decide +kernel
theorem dL_law_1736 : decode cL_law 1736 = .ok (.laload, 1) := by decide +kernel
theorem dL_law_1737 : decode cL_law 1737 = .ok (.iload 6, 2) := by decide +kernel
theorem dL_law_1739 : decode cL_law 1739 = .ok (.i2l, 1) := by decide +kernel
theorem dL_law_1740 : decode cL_law 1740 = .ok (.lcmp, 1) := by decide +kernel
theorem dL_law_1741 : decode cL_law 1741 = .ok (.ifCond .eq 5, 3) := by decide +kernel
theorem dL_law_1744 : decode cL_law 1744 = .ok (.iconst 0, 1) := by decide +kernel
theorem dL_law_1745 : decode cL_law 1745 = .ok (.ireturn, 1) := by decide +kernel
theorem dL_law_1746 : decode cL_law 1746 = .ok (.goto 127, 3) := by decide +kernel
def fLaw_23 (xs : Nat → Int32) (nL : Nat) (i : Int32) (m : dM) : Option dM := dg (dIx (i + 1) nL) (dg (dIx (i + 2) nL) ((fL_penalty m 0 (xs (Int32.toNatClampNeg (i + 1))) (xs (Int32.toNatClampNeg (i + 2))) 463).bind (fun q => dP2 q (fun v3 m2 => dg (dIx (i + 1) nL) (dg (dIx (i + 2) nL) ((fX12_penalty m2 444 (xs (Int32.toNatClampNeg (i + 1))) (xs (Int32.toNatClampNeg (i + 2)))).bind (fun q => dP2 q (fun v6 m5 => (fX12_thrown m5 444).bind (fun v8 => if v8 = v3 then if v3 = 0 then dg (dIx 0 (dL 463)) (if (lg_cmp (m5.2 463 (Int32.toNatClampNeg (0))) (Int32.toInt64 v6)) = 0 then some m5 else none) else some m5 else none)))))))))
set_option maxHeartbeats 4000000 in
set_option maxRecDepth 100000 in
theorem kLaw_23 {p : Program} {l : Launch} {e : Env} {s : State} {mth : MethodId} {below : List Frame} {meth : Method} {c : Code} {b nL : Nat} {xs : Nat → Int32} {g : dG} {Q : State → Prop} {H : Heap} {locs : List Loc} {cells slots : Nat} {ls : Array Slot} {i : Int32} {m m9 : dM} (hst : l.stackTraces = false) (S : CallFix p mth c cL_law 8 s #[Value.ref b] wsL_law RL) (hX : va_X b nL xs s s.heap) (hbl : b < s.heap.size) (hbA : ¬ dA g b) (hE : dEnv g s) (hR : cells + 6 ≤ room_1.cells ∧ slots + 36 ≤ room_1.slots) (h : fLaw_23 xs nL i m = some m9) (hP : va_P g.1 vwCl (dws g m) H) (hS : va_S (dA g) s.heap H locs) (hl : lv_has ls 8 [(4, .int i), (0, .ref b), (1, .ref (dad g 0)), (2, .ref (dad g 444)), (3, .ref (dad g 463))])
    (kk : ∀ (H : Heap) (locs : List Loc) (ls : Array Slot) (cells2 slots2 : Nat), cells2 ≤ cells + 6 → slots2 ≤ slots + 36 → va_P g.1 vwCl (dws g m9) H → va_S (dA g) s.heap H locs → lv_has ls 8 [(4, .int i), (0, .ref b), (1, .ref (dad g 0)), (2, .ref (dad g 444)), (3, .ref (dad g 463))] → W p l e room_1 s mth #[Value.ref b] below meth c H locs cells2 slots2 Q (F0 mth 1873 ls [])) : W p l e room_1 s mth #[Value.ref b] below meth c H locs cells slots Q (F0 mth 1681 ls []) := by
  obtain ⟨hR1, hR2⟩ := hR
  unfold fLaw_23 at h
  refine lv_aload_n S.1 S.2.1 dL_law_1681 rfl (lv_at hl 2 rfl) ?_
  refine lv_aload_n S.1 S.2.1 dL_law_1682 rfl (lv_at hl 1 rfl) ?_
  refine lv_iload S.1 S.2.1 dL_law_1683 (lv_at hl 0 rfl) ?_
  refine lv_iconst (v := 1) S.1 S.2.1 dL_law_1685 (by decide) ?_
  refine lv_iadd S.1 S.2.1 dL_law_1686 ?_
  obtain ⟨hi, h⟩ := d_g h
  refine va_sld S.1 S.2.1 hX hbl hbA hS (dIx_in hi) dL_law_1687 ?_
  refine lv_aload_n S.1 S.2.1 dL_law_1688 rfl (lv_at hl 1 rfl) ?_
  refine lv_iload S.1 S.2.1 dL_law_1689 (lv_at hl 0 rfl) ?_
  refine lv_iconst (v := 2) S.1 S.2.1 dL_law_1691 (by decide) ?_
  refine lv_iadd S.1 S.2.1 dL_law_1692 ?_
  obtain ⟨hi, h⟩ := d_g h
  refine va_sld S.1 S.2.1 hX hbl hbA hS (dIx_in hi) dL_law_1693 ?_
  refine lv_aload_n S.1 S.2.1 dL_law_1694 rfl (lv_at hl 4 rfl) ?_
  obtain ⟨⟨v3, m2⟩, hc1, h⟩ := d_b h
  have h := d_p2 h
  refine dLri (vx_runSX (As := [.ref (dad g 0), .int (xs (Int32.toNatClampNeg (i + 1))), .int (xs (Int32.toNatClampNeg (i + 2))), .ref (dad g 463)]) (rest := []) S (kL_penalty l g hst hc1) (vx_cwSW 4 S.2.2.2.2 gL_law_L_penalty rfl rfl rfl ynL_penalty ⟨(Nat.le_of_ble_eq_true rfl), (Nat.le_of_ble_eq_true rfl)⟩) (dpS hE hP hS) rfl rfl hl.1 rfl (lv_room (Nat.le_of_ble_eq_true rfl)) dL_law_1695 ⟨by omega, by omega⟩) hS (fun H locs hP hS => ?_)
  refine lv_istore (lv' := [(5, .int v3), (4, .int i), (0, .ref b), (1, .ref (dad g 0)), (2, .ref (dad g 444)), (3, .ref (dad g 463))]) S.1 S.2.1 dL_law_1698 hl (by decide) rfl (fun ls hl => ?_)
  refine lv_aload_n S.1 S.2.1 dL_law_1700 rfl (lv_at hl 4 rfl) ?_
  refine lv_aload_n S.1 S.2.1 dL_law_1701 rfl (lv_at hl 2 rfl) ?_
  refine lv_iload S.1 S.2.1 dL_law_1702 (lv_at hl 1 rfl) ?_
  refine lv_iconst (v := 1) S.1 S.2.1 dL_law_1704 (by decide) ?_
  refine lv_iadd S.1 S.2.1 dL_law_1705 ?_
  obtain ⟨hi, h⟩ := d_g h
  refine va_sld S.1 S.2.1 hX hbl hbA hS (dIx_in hi) dL_law_1706 ?_
  refine lv_aload_n S.1 S.2.1 dL_law_1707 rfl (lv_at hl 2 rfl) ?_
  refine lv_iload S.1 S.2.1 dL_law_1708 (lv_at hl 1 rfl) ?_
  refine lv_iconst (v := 2) S.1 S.2.1 dL_law_1710 (by decide) ?_
  refine lv_iadd S.1 S.2.1 dL_law_1711 ?_
  obtain ⟨hi, h⟩ := d_g h
  refine va_sld S.1 S.2.1 hX hbl hbA hS (dIx_in hi) dL_law_1712 ?_
  obtain ⟨⟨v6, m5⟩, hc4, h⟩ := d_b h
  have h := d_p2 h
  refine dri (va_runV (As := [.int (xs (Int32.toNatClampNeg (i + 1))), .int (xs (Int32.toNatClampNeg (i + 2)))]) (rest := []) S (kX12_penalty l g hc4) (cwV 2 S.2.2.2.2 gL_law_X12_penalty rfl rfl rfl ynX12_penalty ⟨Nat.le_of_ble_eq_true rfl, Nat.le_of_ble_eq_true rfl⟩) (dpV hE hP hS (ci := 12) rfl (dat13 dk_444)) rfl rfl hl.1 rfl (lv_room (Nat.le_of_ble_eq_true rfl)) dL_law_1713 ⟨by omega, by omega⟩) hS (fun H locs hP hS => ?_)
  refine lv_istore (lv' := [(6, .int v6), (5, .int v3), (4, .int i), (0, .ref b), (1, .ref (dad g 0)), (2, .ref (dad g 444)), (3, .ref (dad g 463))]) S.1 S.2.1 dL_law_1716 hl (by decide) rfl (fun ls hl => ?_)
  refine lv_aload_n S.1 S.2.1 dL_law_1718 rfl (lv_at hl 5 rfl) ?_
  obtain ⟨v8, hc7, h⟩ := d_b h
  refine dri (va_runV (As := []) (rest := []) S (kX12_thrown l g hc7) (cwV 0 S.2.2.2.2 gL_law_X12_thrown rfl rfl rfl ynX12_thrown ⟨Nat.le_of_ble_eq_true rfl, Nat.le_of_ble_eq_true rfl⟩) (dpV hE hP hS (ci := 12) rfl (dat13 dk_444)) rfl rfl hl.1 rfl (lv_room (Nat.le_of_ble_eq_true rfl)) dL_law_1719 ⟨by omega, by omega⟩) hS (fun H locs hP hS => ?_)
  refine lv_iload S.1 S.2.1 dL_law_1722 (lv_at hl 1 rfl) ?_
  refine lv_icmp_eq (tgt := 1729) S.1 S.2.1 dL_law_1724 (by decide) (fun cq => ?_) (fun cq => ?_)
  · have h := d_t cq h
    refine lv_iload S.1 S.2.1 dL_law_1729 (lv_at hl 1 rfl) ?_
    refine lv_if_ne (tgt := 1746) S.1 S.2.1 dL_law_1731 (by decide) (fun cq => ?_) (fun cq => ?_)
    · have h := d_f cq h
      refine lv_goto (tgt := 1873) S.1 S.2.1 dL_law_1746 (by decide) ?_
      obtain rfl := Option.some.inj h
      exact kk H locs ls _ _ (by omega) (by omega) hP hS (lv_sub hl [2, 3, 4, 5, 6] rfl)
    · have h := d_t cq h
      refine lv_aload_n S.1 S.2.1 dL_law_1734 rfl (lv_at hl 6 rfl) ?_
      refine lv_iconst (v := 0) S.1 S.2.1 dL_law_1735 (by decide) ?_
      obtain ⟨hi, h⟩ := d_g h
      refine d_lald S hE hP dk_463 hi dL_law_1736 ?_
      refine lv_iload S.1 S.2.1 dL_law_1737 (lv_at hl 0 rfl) ?_
      refine lv_i2l S.1 S.2.1 dL_law_1739 rfl ?_
      refine W.lcmp S.1 S.2.1 dL_law_1740 ?_
      refine lv_if_eq (tgt := 1746) S.1 S.2.1 dL_law_1741 (by decide) (fun cq => ?_) (fun cq => ?_)
      · have h := d_t cq h
        refine lv_goto (tgt := 1873) S.1 S.2.1 dL_law_1746 (by decide) ?_
        obtain rfl := Option.some.inj h
        exact kk H locs ls _ _ (by omega) (by omega) hP hS (lv_sub hl [2, 3, 4, 5, 6] rfl)
      · have h := d_f cq h
        cases h
  · have h := d_f cq h
    cases h
theorem dL_law_1749 : decode cL_law 1749 = .ok (.aload_n 1, 1) := by decide +kernel
theorem dL_law_1750 : decode cL_law 1750 = .ok (.aload_n 0, 1) := by decide +kernel
theorem dL_law_1751 : decode cL_law 1751 = .ok (.iload 4, 2) := by decide +kernel
theorem dL_law_1753 : decode cL_law 1753 = .ok (.iconst 1, 1) := by decide +kernel
theorem dL_law_1754 : decode cL_law 1754 = .ok (.iadd, 1) := by decide +kernel
theorem dL_law_1755 : decode cL_law 1755 = .ok (.iaload, 1) := by decide +kernel
theorem dL_law_1756 : decode cL_law 1756 = .ok (.aload_n 3, 1) := by decide +kernel
theorem dL_law_1757 : decode cL_law 1757 = .ok (.invokestatic 192, 3) := by decide +kernel
theorem dL_law_1760 : decode cL_law 1760 = .ok (.istore 5, 2) := by decide +kernel
theorem dL_law_1762 : decode cL_law 1762 = .ok (.aload_n 2, 1) := by decide +kernel
theorem dL_law_1763 : decode cL_law 1763 = .ok (.aload_n 0, 1) := by decide +kernel
theorem dL_law_1764 : decode cL_law 1764 = .ok (.iload 4, 2) := by decide +kernel
theorem dL_law_1766 : decode cL_law 1766 = .ok (.iconst 1, 1) := by decide +kernel
theorem dL_law_1767 : decode cL_law 1767 = .ok (.iadd, 1) := by decide +kernel
theorem dL_law_1768 : decode cL_law 1768 = .ok (.iaload, 1) := by decide +kernel
theorem dL_law_1769 : decode cL_law 1769 = .ok (.invokevirtual 194, 3) := by decide +kernel
theorem dL_law_1772 : decode cL_law 1772 = .ok (.istore 6, 2) := by decide +kernel
theorem dL_law_1774 : decode cL_law 1774 = .ok (.aload_n 2, 1) := by decide +kernel
theorem dL_law_1775 : decode cL_law 1775 = .ok (.invokevirtual 104, 3) := by decide +kernel
theorem dL_law_1778 : decode cL_law 1778 = .ok (.iload 5, 2) := by decide +kernel
theorem dL_law_1780 : decode cL_law 1780 = .ok (.if_icmp .eq 5, 3) := by decide +kernel
theorem dL_law_1783 : decode cL_law 1783 = .ok (.iconst 0, 1) := by decide +kernel
theorem dL_law_1784 : decode cL_law 1784 = .ok (.ireturn, 1) := by decide +kernel
theorem dL_law_1785 : decode cL_law 1785 = .ok (.iload 5, 2) := by decide +kernel
theorem dL_law_1787 : decode cL_law 1787 = .ok (.ifCond .ne 15, 3) := by decide +kernel
theorem dL_law_1790 : decode cL_law 1790 = .ok (.aload_n 3, 1) := by decide +kernel
theorem dL_law_1791 : decode cL_law 1791 = .ok (.iconst 0, 1) := by decide +kernel
theorem dL_law_1792 : decode cL_law 1792 = .ok (.laload, 1) := by decide +kernel
theorem dL_law_1793 : decode cL_law 1793 = .ok (.iload 6, 2) := by decide +kernel
theorem dL_law_1795 : decode cL_law 1795 = .ok (.i2l, 1) := by decide +kernel
theorem dL_law_1796 : decode cL_law 1796 = .ok (.lcmp, 1) := by decide +kernel
theorem dL_law_1797 : decode cL_law 1797 = .ok (.ifCond .eq 5, 3) := by decide +kernel
theorem dL_law_1800 : decode cL_law 1800 = .ok (.iconst 0, 1) := by decide +kernel
theorem dL_law_1801 : decode cL_law 1801 = .ok (.ireturn, 1) := by decide +kernel
theorem dL_law_1802 : decode cL_law 1802 = .ok (.goto 71, 3) := by decide +kernel
def fLaw_24 (xs : Nat → Int32) (nL : Nat) (i : Int32) (m : dM) : Option dM := dg (dIx (i + 1) nL) ((fL_ranked m 0 (xs (Int32.toNatClampNeg (i + 1))) 463).bind (fun q => dP2 q (fun v3 m2 => dg (dIx (i + 1) nL) ((fX12_ranked m2 444 (xs (Int32.toNatClampNeg (i + 1)))).bind (fun q => dP2 q (fun v6 m5 => (fX12_thrown m5 444).bind (fun v8 => if v8 = v3 then if v3 = 0 then dg (dIx 0 (dL 463)) (if (lg_cmp (m5.2 463 (Int32.toNatClampNeg (0))) (Int32.toInt64 v6)) = 0 then some m5 else none) else some m5 else none)))))))
set_option maxHeartbeats 4000000 in
set_option maxRecDepth 100000 in
theorem kLaw_24 {p : Program} {l : Launch} {e : Env} {s : State} {mth : MethodId} {below : List Frame} {meth : Method} {c : Code} {b nL : Nat} {xs : Nat → Int32} {g : dG} {Q : State → Prop} {H : Heap} {locs : List Loc} {cells slots : Nat} {ls : Array Slot} {i : Int32} {m m9 : dM} (hst : l.stackTraces = false) (S : CallFix p mth c cL_law 8 s #[Value.ref b] wsL_law RL) (hX : va_X b nL xs s s.heap) (hbl : b < s.heap.size) (hbA : ¬ dA g b) (hE : dEnv g s) (hR : cells + 6 ≤ room_1.cells ∧ slots + 36 ≤ room_1.slots) (h : fLaw_24 xs nL i m = some m9) (hP : va_P g.1 vwCl (dws g m) H) (hS : va_S (dA g) s.heap H locs) (hl : lv_has ls 8 [(4, .int i), (0, .ref b), (1, .ref (dad g 0)), (2, .ref (dad g 444)), (3, .ref (dad g 463))])
    (kk : ∀ (H : Heap) (locs : List Loc) (ls : Array Slot) (cells2 slots2 : Nat), cells2 ≤ cells + 6 → slots2 ≤ slots + 36 → va_P g.1 vwCl (dws g m9) H → va_S (dA g) s.heap H locs → lv_has ls 8 [(4, .int i), (0, .ref b), (1, .ref (dad g 0)), (2, .ref (dad g 444)), (3, .ref (dad g 463))] → W p l e room_1 s mth #[Value.ref b] below meth c H locs cells2 slots2 Q (F0 mth 1873 ls [])) : W p l e room_1 s mth #[Value.ref b] below meth c H locs cells slots Q (F0 mth 1749 ls []) := by
  obtain ⟨hR1, hR2⟩ := hR
  unfold fLaw_24 at h
  refine lv_aload_n S.1 S.2.1 dL_law_1749 rfl (lv_at hl 2 rfl) ?_
  refine lv_aload_n S.1 S.2.1 dL_law_1750 rfl (lv_at hl 1 rfl) ?_
  refine lv_iload S.1 S.2.1 dL_law_1751 (lv_at hl 0 rfl) ?_
  refine lv_iconst (v := 1) S.1 S.2.1 dL_law_1753 (by decide) ?_
  refine lv_iadd S.1 S.2.1 dL_law_1754 ?_
  obtain ⟨hi, h⟩ := d_g h
  refine va_sld S.1 S.2.1 hX hbl hbA hS (dIx_in hi) dL_law_1755 ?_
  refine lv_aload_n S.1 S.2.1 dL_law_1756 rfl (lv_at hl 4 rfl) ?_
  obtain ⟨⟨v3, m2⟩, hc1, h⟩ := d_b h
  have h := d_p2 h
  refine dLri (vx_runSX (As := [.ref (dad g 0), .int (xs (Int32.toNatClampNeg (i + 1))), .ref (dad g 463)]) (rest := []) S (kL_ranked l g hst hc1) (vx_cwSW 3 S.2.2.2.2 gL_law_L_ranked rfl rfl rfl ynL_ranked ⟨(Nat.le_of_ble_eq_true rfl), (Nat.le_of_ble_eq_true rfl)⟩) (dpS hE hP hS) rfl rfl hl.1 rfl (lv_room (Nat.le_of_ble_eq_true rfl)) dL_law_1757 ⟨by omega, by omega⟩) hS (fun H locs hP hS => ?_)
  refine lv_istore (lv' := [(5, .int v3), (4, .int i), (0, .ref b), (1, .ref (dad g 0)), (2, .ref (dad g 444)), (3, .ref (dad g 463))]) S.1 S.2.1 dL_law_1760 hl (by decide) rfl (fun ls hl => ?_)
  refine lv_aload_n S.1 S.2.1 dL_law_1762 rfl (lv_at hl 4 rfl) ?_
  refine lv_aload_n S.1 S.2.1 dL_law_1763 rfl (lv_at hl 2 rfl) ?_
  refine lv_iload S.1 S.2.1 dL_law_1764 (lv_at hl 1 rfl) ?_
  refine lv_iconst (v := 1) S.1 S.2.1 dL_law_1766 (by decide) ?_
  refine lv_iadd S.1 S.2.1 dL_law_1767 ?_
  obtain ⟨hi, h⟩ := d_g h
  refine va_sld S.1 S.2.1 hX hbl hbA hS (dIx_in hi) dL_law_1768 ?_
  obtain ⟨⟨v6, m5⟩, hc4, h⟩ := d_b h
  have h := d_p2 h
  refine dri (va_runV (As := [.int (xs (Int32.toNatClampNeg (i + 1)))]) (rest := []) S (kX12_ranked l g hc4) (cwV 1 S.2.2.2.2 gL_law_X12_ranked rfl rfl rfl ynX12_ranked ⟨Nat.le_of_ble_eq_true rfl, Nat.le_of_ble_eq_true rfl⟩) (dpV hE hP hS (ci := 12) rfl (dat13 dk_444)) rfl rfl hl.1 rfl (lv_room (Nat.le_of_ble_eq_true rfl)) dL_law_1769 ⟨by omega, by omega⟩) hS (fun H locs hP hS => ?_)
  refine lv_istore (lv' := [(6, .int v6), (5, .int v3), (4, .int i), (0, .ref b), (1, .ref (dad g 0)), (2, .ref (dad g 444)), (3, .ref (dad g 463))]) S.1 S.2.1 dL_law_1772 hl (by decide) rfl (fun ls hl => ?_)
  refine lv_aload_n S.1 S.2.1 dL_law_1774 rfl (lv_at hl 5 rfl) ?_
  obtain ⟨v8, hc7, h⟩ := d_b h
  refine dri (va_runV (As := []) (rest := []) S (kX12_thrown l g hc7) (cwV 0 S.2.2.2.2 gL_law_X12_thrown rfl rfl rfl ynX12_thrown ⟨Nat.le_of_ble_eq_true rfl, Nat.le_of_ble_eq_true rfl⟩) (dpV hE hP hS (ci := 12) rfl (dat13 dk_444)) rfl rfl hl.1 rfl (lv_room (Nat.le_of_ble_eq_true rfl)) dL_law_1775 ⟨by omega, by omega⟩) hS (fun H locs hP hS => ?_)
  refine lv_iload S.1 S.2.1 dL_law_1778 (lv_at hl 1 rfl) ?_
  refine lv_icmp_eq (tgt := 1785) S.1 S.2.1 dL_law_1780 (by decide) (fun cq => ?_) (fun cq => ?_)
  · have h := d_t cq h
    refine lv_iload S.1 S.2.1 dL_law_1785 (lv_at hl 1 rfl) ?_
    refine lv_if_ne (tgt := 1802) S.1 S.2.1 dL_law_1787 (by decide) (fun cq => ?_) (fun cq => ?_)
    · have h := d_f cq h
      refine lv_goto (tgt := 1873) S.1 S.2.1 dL_law_1802 (by decide) ?_
      obtain rfl := Option.some.inj h
      exact kk H locs ls _ _ (by omega) (by omega) hP hS (lv_sub hl [2, 3, 4, 5, 6] rfl)
    · have h := d_t cq h
      refine lv_aload_n S.1 S.2.1 dL_law_1790 rfl (lv_at hl 6 rfl) ?_
      refine lv_iconst (v := 0) S.1 S.2.1 dL_law_1791 (by decide) ?_
      obtain ⟨hi, h⟩ := d_g h
      refine d_lald S hE hP dk_463 hi dL_law_1792 ?_
      refine lv_iload S.1 S.2.1 dL_law_1793 (lv_at hl 0 rfl) ?_
      refine lv_i2l S.1 S.2.1 dL_law_1795 rfl ?_
      refine W.lcmp S.1 S.2.1 dL_law_1796 ?_
      refine lv_if_eq (tgt := 1802) S.1 S.2.1 dL_law_1797 (by decide) (fun cq => ?_) (fun cq => ?_)
      · have h := d_t cq h
        refine lv_goto (tgt := 1873) S.1 S.2.1 dL_law_1802 (by decide) ?_
        obtain rfl := Option.some.inj h
        exact kk H locs ls _ _ (by omega) (by omega) hP hS (lv_sub hl [2, 3, 4, 5, 6] rfl)
      · have h := d_f cq h
        cases h
  · have h := d_f cq h
    cases h
theorem dL_law_1805 : decode cL_law 1805 = .ok (.aload_n 1, 1) := by decide +kernel
theorem dL_law_1806 : decode cL_law 1806 = .ok (.aload_n 0, 1) := by decide +kernel
theorem dL_law_1807 : decode cL_law 1807 = .ok (.iload 4, 2) := by decide +kernel
theorem dL_law_1809 : decode cL_law 1809 = .ok (.iconst 1, 1) := by decide +kernel
theorem dL_law_1810 : decode cL_law 1810 = .ok (.iadd, 1) := by decide +kernel
theorem dL_law_1811 : decode cL_law 1811 = .ok (.iaload, 1) := by decide +kernel
theorem dL_law_1812 : decode cL_law 1812 = .ok (.aload_n 0, 1) := by decide +kernel
theorem dL_law_1813 : decode cL_law 1813 = .ok (.iload 4, 2) := by decide +kernel
theorem dL_law_1815 : decode cL_law 1815 = .ok (.iconst 2, 1) := by decide +kernel
theorem dL_law_1816 : decode cL_law 1816 = .ok (.iadd, 1) := by decide +kernel
theorem dL_law_1817 : decode cL_law 1817 = .ok (.iaload, 1) := by decide +kernel
theorem dL_law_1818 : decode cL_law 1818 = .ok (.aload_n 3, 1) := by decide +kernel
theorem dL_law_1819 : decode cL_law 1819 = .ok (.invokestatic 195, 3) := by decide +kernel
theorem dL_law_1822 : decode cL_law 1822 = .ok (.istore 5, 2) := by decide +kernel
theorem dL_law_1824 : decode cL_law 1824 = .ok (.aload_n 2, 1) := by decide +kernel
theorem dL_law_1825 : decode cL_law 1825 = .ok (.aload_n 0, 1) := by decide +kernel
theorem dL_law_1826 : decode cL_law 1826 = .ok (.iload 4, 2) := by decide +kernel
theorem dL_law_1828 : decode cL_law 1828 = .ok (.iconst 1, 1) := by decide +kernel
theorem dL_law_1829 : decode cL_law 1829 = .ok (.iadd, 1) := by decide +kernel
theorem dL_law_1830 : decode cL_law 1830 = .ok (.iaload, 1) := by decide +kernel
theorem dL_law_1831 : decode cL_law 1831 = .ok (.aload_n 0, 1) := by decide +kernel
theorem dL_law_1832 : decode cL_law 1832 = .ok (.iload 4, 2) := by decide +kernel
theorem dL_law_1834 : decode cL_law 1834 = .ok (.iconst 2, 1) := by decide +kernel
theorem dL_law_1835 : decode cL_law 1835 = .ok (.iadd, 1) := by decide +kernel
theorem dL_law_1836 : decode cL_law 1836 = .ok (.iaload, 1) := by decide +kernel
theorem dL_law_1837 : decode cL_law 1837 = .ok (.invokevirtual 197, 3) := by decide +kernel
theorem dL_law_1840 : decode cL_law 1840 = .ok (.istore 6, 2) := by decide +kernel
theorem dL_law_1842 : decode cL_law 1842 = .ok (.aload_n 2, 1) := by decide +kernel
theorem dL_law_1843 : decode cL_law 1843 = .ok (.invokevirtual 104, 3) := by decide +kernel
theorem dL_law_1846 : decode cL_law 1846 = .ok (.iload 5, 2) := by decide +kernel
theorem dL_law_1848 : decode cL_law 1848 = .ok (.if_icmp .eq 5, 3) := by decide +kernel
theorem dL_law_1851 : decode cL_law 1851 = .ok (.iconst 0, 1) := by decide +kernel
theorem dL_law_1852 : decode cL_law 1852 = .ok (.ireturn, 1) := by decide +kernel
theorem dL_law_1853 : decode cL_law 1853 = .ok (.iload 5, 2) := by decide +kernel
theorem dL_law_1855 : decode cL_law 1855 = .ok (.ifCond .ne 15, 3) := by decide +kernel
theorem dL_law_1858 : decode cL_law 1858 = .ok (.aload_n 3, 1) := by decide +kernel
theorem dL_law_1859 : decode cL_law 1859 = .ok (.iconst 0, 1) := by decide +kernel
theorem dL_law_1860 : decode cL_law 1860 = .ok (.laload, 1) := by decide +kernel
theorem dL_law_1861 : decode cL_law 1861 = .ok (.iload 6, 2) := by decide +kernel
theorem dL_law_1863 : decode cL_law 1863 = .ok (.i2l, 1) := by decide +kernel
theorem dL_law_1864 : decode cL_law 1864 = .ok (.lcmp, 1) := by decide +kernel
theorem dL_law_1865 : decode cL_law 1865 = .ok (.ifCond .eq 5, 3) := by decide +kernel
theorem dL_law_1868 : decode cL_law 1868 = .ok (.iconst 0, 1) := by decide +kernel
theorem dL_law_1869 : decode cL_law 1869 = .ok (.ireturn, 1) := by decide +kernel
theorem dL_law_1870 : decode cL_law 1870 = .ok (.goto 3, 3) := by decide +kernel
def fLaw_25 (xs : Nat → Int32) (nL : Nat) (i : Int32) (m : dM) : Option dM := dg (dIx (i + 1) nL) (dg (dIx (i + 2) nL) ((fL_rehearse m 0 (xs (Int32.toNatClampNeg (i + 1))) (xs (Int32.toNatClampNeg (i + 2))) 463).bind (fun q => dP2 q (fun v3 m2 => dg (dIx (i + 1) nL) (dg (dIx (i + 2) nL) ((fX12_rehearse m2 444 (xs (Int32.toNatClampNeg (i + 1))) (xs (Int32.toNatClampNeg (i + 2)))).bind (fun q => dP2 q (fun v6 m5 => (fX12_thrown m5 444).bind (fun v8 => if v8 = v3 then if v3 = 0 then dg (dIx 0 (dL 463)) (if (lg_cmp (m5.2 463 (Int32.toNatClampNeg (0))) (Int32.toInt64 v6)) = 0 then some m5 else none) else some m5 else none)))))))))
set_option maxHeartbeats 4000000 in
set_option maxRecDepth 100000 in
theorem kLaw_25 {p : Program} {l : Launch} {e : Env} {s : State} {mth : MethodId} {below : List Frame} {meth : Method} {c : Code} {b nL : Nat} {xs : Nat → Int32} {g : dG} {Q : State → Prop} {H : Heap} {locs : List Loc} {cells slots : Nat} {ls : Array Slot} {i : Int32} {m m9 : dM} (hst : l.stackTraces = false) (S : CallFix p mth c cL_law 8 s #[Value.ref b] wsL_law RL) (hX : va_X b nL xs s s.heap) (hbl : b < s.heap.size) (hbA : ¬ dA g b) (hE : dEnv g s) (hR : cells + 6 ≤ room_1.cells ∧ slots + 36 ≤ room_1.slots) (h : fLaw_25 xs nL i m = some m9) (hP : va_P g.1 vwCl (dws g m) H) (hS : va_S (dA g) s.heap H locs) (hl : lv_has ls 8 [(4, .int i), (0, .ref b), (1, .ref (dad g 0)), (2, .ref (dad g 444)), (3, .ref (dad g 463))])
    (kk : ∀ (H : Heap) (locs : List Loc) (ls : Array Slot) (cells2 slots2 : Nat), cells2 ≤ cells + 6 → slots2 ≤ slots + 36 → va_P g.1 vwCl (dws g m9) H → va_S (dA g) s.heap H locs → lv_has ls 8 [(4, .int i), (0, .ref b), (1, .ref (dad g 0)), (2, .ref (dad g 444)), (3, .ref (dad g 463))] → W p l e room_1 s mth #[Value.ref b] below meth c H locs cells2 slots2 Q (F0 mth 1873 ls [])) : W p l e room_1 s mth #[Value.ref b] below meth c H locs cells slots Q (F0 mth 1805 ls []) := by
  obtain ⟨hR1, hR2⟩ := hR
  unfold fLaw_25 at h
  refine lv_aload_n S.1 S.2.1 dL_law_1805 rfl (lv_at hl 2 rfl) ?_
  refine lv_aload_n S.1 S.2.1 dL_law_1806 rfl (lv_at hl 1 rfl) ?_
  refine lv_iload S.1 S.2.1 dL_law_1807 (lv_at hl 0 rfl) ?_
  refine lv_iconst (v := 1) S.1 S.2.1 dL_law_1809 (by decide) ?_
  refine lv_iadd S.1 S.2.1 dL_law_1810 ?_
  obtain ⟨hi, h⟩ := d_g h
  refine va_sld S.1 S.2.1 hX hbl hbA hS (dIx_in hi) dL_law_1811 ?_
  refine lv_aload_n S.1 S.2.1 dL_law_1812 rfl (lv_at hl 1 rfl) ?_
  refine lv_iload S.1 S.2.1 dL_law_1813 (lv_at hl 0 rfl) ?_
  refine lv_iconst (v := 2) S.1 S.2.1 dL_law_1815 (by decide) ?_
  refine lv_iadd S.1 S.2.1 dL_law_1816 ?_
  obtain ⟨hi, h⟩ := d_g h
  refine va_sld S.1 S.2.1 hX hbl hbA hS (dIx_in hi) dL_law_1817 ?_
  refine lv_aload_n S.1 S.2.1 dL_law_1818 rfl (lv_at hl 4 rfl) ?_
  obtain ⟨⟨v3, m2⟩, hc1, h⟩ := d_b h
  have h := d_p2 h
  refine dLri (vx_runSX (As := [.ref (dad g 0), .int (xs (Int32.toNatClampNeg (i + 1))), .int (xs (Int32.toNatClampNeg (i + 2))), .ref (dad g 463)]) (rest := []) S (kL_rehearse l g hst hc1) (vx_cwSW 4 S.2.2.2.2 gL_law_L_rehearse rfl rfl rfl ynL_rehearse ⟨(Nat.le_of_ble_eq_true rfl), (Nat.le_of_ble_eq_true rfl)⟩) (dpS hE hP hS) rfl rfl hl.1 rfl (lv_room (Nat.le_of_ble_eq_true rfl)) dL_law_1819 ⟨by omega, by omega⟩) hS (fun H locs hP hS => ?_)
  refine lv_istore (lv' := [(5, .int v3), (4, .int i), (0, .ref b), (1, .ref (dad g 0)), (2, .ref (dad g 444)), (3, .ref (dad g 463))]) S.1 S.2.1 dL_law_1822 hl (by decide) rfl (fun ls hl => ?_)
  refine lv_aload_n S.1 S.2.1 dL_law_1824 rfl (lv_at hl 4 rfl) ?_
  refine lv_aload_n S.1 S.2.1 dL_law_1825 rfl (lv_at hl 2 rfl) ?_
  refine lv_iload S.1 S.2.1 dL_law_1826 (lv_at hl 1 rfl) ?_
  refine lv_iconst (v := 1) S.1 S.2.1 dL_law_1828 (by decide) ?_
  refine lv_iadd S.1 S.2.1 dL_law_1829 ?_
  obtain ⟨hi, h⟩ := d_g h
  refine va_sld S.1 S.2.1 hX hbl hbA hS (dIx_in hi) dL_law_1830 ?_
  refine lv_aload_n S.1 S.2.1 dL_law_1831 rfl (lv_at hl 2 rfl) ?_
  refine lv_iload S.1 S.2.1 dL_law_1832 (lv_at hl 1 rfl) ?_
  refine lv_iconst (v := 2) S.1 S.2.1 dL_law_1834 (by decide) ?_
  refine lv_iadd S.1 S.2.1 dL_law_1835 ?_
  obtain ⟨hi, h⟩ := d_g h
  refine va_sld S.1 S.2.1 hX hbl hbA hS (dIx_in hi) dL_law_1836 ?_
  obtain ⟨⟨v6, m5⟩, hc4, h⟩ := d_b h
  have h := d_p2 h
  refine dri (va_runV (As := [.int (xs (Int32.toNatClampNeg (i + 1))), .int (xs (Int32.toNatClampNeg (i + 2)))]) (rest := []) S (kX12_rehearse l g hc4) (cwV 2 S.2.2.2.2 gL_law_X12_rehearse rfl rfl rfl ynX12_rehearse ⟨Nat.le_of_ble_eq_true rfl, Nat.le_of_ble_eq_true rfl⟩) (dpV hE hP hS (ci := 12) rfl (dat13 dk_444)) rfl rfl hl.1 rfl (lv_room (Nat.le_of_ble_eq_true rfl)) dL_law_1837 ⟨by omega, by omega⟩) hS (fun H locs hP hS => ?_)
  refine lv_istore (lv' := [(6, .int v6), (5, .int v3), (4, .int i), (0, .ref b), (1, .ref (dad g 0)), (2, .ref (dad g 444)), (3, .ref (dad g 463))]) S.1 S.2.1 dL_law_1840 hl (by decide) rfl (fun ls hl => ?_)
  refine lv_aload_n S.1 S.2.1 dL_law_1842 rfl (lv_at hl 5 rfl) ?_
  obtain ⟨v8, hc7, h⟩ := d_b h
  refine dri (va_runV (As := []) (rest := []) S (kX12_thrown l g hc7) (cwV 0 S.2.2.2.2 gL_law_X12_thrown rfl rfl rfl ynX12_thrown ⟨Nat.le_of_ble_eq_true rfl, Nat.le_of_ble_eq_true rfl⟩) (dpV hE hP hS (ci := 12) rfl (dat13 dk_444)) rfl rfl hl.1 rfl (lv_room (Nat.le_of_ble_eq_true rfl)) dL_law_1843 ⟨by omega, by omega⟩) hS (fun H locs hP hS => ?_)
  refine lv_iload S.1 S.2.1 dL_law_1846 (lv_at hl 1 rfl) ?_
  refine lv_icmp_eq (tgt := 1853) S.1 S.2.1 dL_law_1848 (by decide) (fun cq => ?_) (fun cq => ?_)
  · have h := d_t cq h
    refine lv_iload S.1 S.2.1 dL_law_1853 (lv_at hl 1 rfl) ?_
    refine lv_if_ne (tgt := 1870) S.1 S.2.1 dL_law_1855 (by decide) (fun cq => ?_) (fun cq => ?_)
    · have h := d_f cq h
      refine lv_goto (tgt := 1873) S.1 S.2.1 dL_law_1870 (by decide) ?_
      obtain rfl := Option.some.inj h
      exact kk H locs ls _ _ (by omega) (by omega) hP hS (lv_sub hl [2, 3, 4, 5, 6] rfl)
    · have h := d_t cq h
      refine lv_aload_n S.1 S.2.1 dL_law_1858 rfl (lv_at hl 6 rfl) ?_
      refine lv_iconst (v := 0) S.1 S.2.1 dL_law_1859 (by decide) ?_
      obtain ⟨hi, h⟩ := d_g h
      refine d_lald S hE hP dk_463 hi dL_law_1860 ?_
      refine lv_iload S.1 S.2.1 dL_law_1861 (lv_at hl 0 rfl) ?_
      refine lv_i2l S.1 S.2.1 dL_law_1863 rfl ?_
      refine W.lcmp S.1 S.2.1 dL_law_1864 ?_
      refine lv_if_eq (tgt := 1870) S.1 S.2.1 dL_law_1865 (by decide) (fun cq => ?_) (fun cq => ?_)
      · have h := d_t cq h
        refine lv_goto (tgt := 1873) S.1 S.2.1 dL_law_1870 (by decide) ?_
        obtain rfl := Option.some.inj h
        exact kk H locs ls _ _ (by omega) (by omega) hP hS (lv_sub hl [2, 3, 4, 5, 6] rfl)
      · have h := d_f cq h
        cases h
  · have h := d_f cq h
    cases h
