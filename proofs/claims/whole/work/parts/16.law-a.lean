/-! the law's cases -/
theorem dLri {p : Program} {l : Launch} {e : Env} {R : Room} {s : State} {m : MethodId} {args : Array Value} {below : List Frame} {meth : Method} {c : Code} {H : Heap} {locs : List Loc} {cells slots mc ms pc : Nat} {Q : State → Prop} {g : dG} {m0 : dM} {ls : Array Slot} {rest st0 : List Value} {r0 : Int32} {a : Array Value} (hr : vx_Run p l e R s m args below meth c H locs cells slots mc ms (F0 m pc ls st0) rest (va_Qi (fun (r : Int32) (u : dM) => r = r0 ∧ u = m0) (dIn g) (dA g) a) (dNoX g) (dA g)) (hS : va_S (dA g) s.heap H locs)
    (kk : ∀ (H1 : Heap) (locs1 : List Loc), va_P g.1 vwCl (dws g m0) H1 → va_S (dA g) s.heap H1 locs1 → W p l e R s m args below meth c H1 locs1 (cells + mc) (slots + ms) Q (F0 m (pc + 3) ls (.int r0 :: rest))) : W p l e R s m args below meth c H locs cells slots Q (F0 m pc ls st0) :=
  vx_calli hr hS (fun _ _ h => h) (fun _ h => h) (fun _ _ h => h) (fun E ce q9 u t H1 locs1 ht hvm hp hB hz hk hS1 h1 h2 h3 => hp.elim) (fun r u t H1 locs1 ht hvm hp hB hz hk hS1 => by
    obtain ⟨rfl, rfl⟩ := hp
    exact kk H1 locs1 (by rw [← ht]; exact hB.2) hS1)
theorem ynL_band : yL_band.cls ≠ "java/lang/invoke/MethodHandle" ∧ yL_band.cls ≠ "java/lang/invoke/VarHandle" ∧ (parseMethodDescriptor yL_band.desc).map (fun d => d.parameters.length) = some 2 := by decide +kernel
theorem ynL_legs : yL_legs.cls ≠ "java/lang/invoke/MethodHandle" ∧ yL_legs.cls ≠ "java/lang/invoke/VarHandle" ∧ (parseMethodDescriptor yL_legs.desc).map (fun d => d.parameters.length) = some 4 := by decide +kernel
theorem ynL_ill : yL_ill.cls ≠ "java/lang/invoke/MethodHandle" ∧ yL_ill.cls ≠ "java/lang/invoke/VarHandle" ∧ (parseMethodDescriptor yL_ill.desc).map (fun d => d.parameters.length) = some 4 := by decide +kernel
theorem ynL_alternate : yL_alternate.cls ≠ "java/lang/invoke/MethodHandle" ∧ yL_alternate.cls ≠ "java/lang/invoke/VarHandle" ∧ (parseMethodDescriptor yL_alternate.desc).map (fun d => d.parameters.length) = some 4 := by decide +kernel
theorem ynL_line : yL_line.cls ≠ "java/lang/invoke/MethodHandle" ∧ yL_line.cls ≠ "java/lang/invoke/VarHandle" ∧ (parseMethodDescriptor yL_line.desc).map (fun d => d.parameters.length) = some 6 := by decide +kernel
theorem ynL_block : yL_block.cls ≠ "java/lang/invoke/MethodHandle" ∧ yL_block.cls ≠ "java/lang/invoke/VarHandle" ∧ (parseMethodDescriptor yL_block.desc).map (fun d => d.parameters.length) = some 6 := by decide +kernel
theorem ynL_wedge : yL_wedge.cls ≠ "java/lang/invoke/MethodHandle" ∧ yL_wedge.cls ≠ "java/lang/invoke/VarHandle" ∧ (parseMethodDescriptor yL_wedge.desc).map (fun d => d.parameters.length) = some 5 := by decide +kernel
theorem ynL_part : yL_part.cls ≠ "java/lang/invoke/MethodHandle" ∧ yL_part.cls ≠ "java/lang/invoke/VarHandle" ∧ (parseMethodDescriptor yL_part.desc).map (fun d => d.parameters.length) = some 6 := by decide +kernel
theorem ynL_change : yL_change.cls ≠ "java/lang/invoke/MethodHandle" ∧ yL_change.cls ≠ "java/lang/invoke/VarHandle" ∧ (parseMethodDescriptor yL_change.desc).map (fun d => d.parameters.length) = some 6 := by decide +kernel
theorem ynL_cut : yL_cut.cls ≠ "java/lang/invoke/MethodHandle" ∧ yL_cut.cls ≠ "java/lang/invoke/VarHandle" ∧ (parseMethodDescriptor yL_cut.desc).map (fun d => d.parameters.length) = some 2 := by decide +kernel
theorem ynL_place : yL_place.cls ≠ "java/lang/invoke/MethodHandle" ∧ yL_place.cls ≠ "java/lang/invoke/VarHandle" ∧ (parseMethodDescriptor yL_place.desc).map (fun d => d.parameters.length) = some 4 := by decide +kernel
theorem ynL_walking : yL_walking.cls ≠ "java/lang/invoke/MethodHandle" ∧ yL_walking.cls ≠ "java/lang/invoke/VarHandle" ∧ (parseMethodDescriptor yL_walking.desc).map (fun d => d.parameters.length) = some 3 := by decide +kernel
theorem ynL_at : yL_at.cls ≠ "java/lang/invoke/MethodHandle" ∧ yL_at.cls ≠ "java/lang/invoke/VarHandle" ∧ (parseMethodDescriptor yL_at.desc).map (fun d => d.parameters.length) = some 5 := by decide +kernel
theorem ynL_fault : yL_fault.cls ≠ "java/lang/invoke/MethodHandle" ∧ yL_fault.cls ≠ "java/lang/invoke/VarHandle" ∧ (parseMethodDescriptor yL_fault.desc).map (fun d => d.parameters.length) = some 4 := by decide +kernel
theorem ynL_phase : yL_phase.cls ≠ "java/lang/invoke/MethodHandle" ∧ yL_phase.cls ≠ "java/lang/invoke/VarHandle" ∧ (parseMethodDescriptor yL_phase.desc).map (fun d => d.parameters.length) = some 6 := by decide +kernel
theorem ynL_caught : yL_caught.cls ≠ "java/lang/invoke/MethodHandle" ∧ yL_caught.cls ≠ "java/lang/invoke/VarHandle" ∧ (parseMethodDescriptor yL_caught.desc).map (fun d => d.parameters.length) = some 7 := by decide +kernel
theorem ynL_page : yL_page.cls ≠ "java/lang/invoke/MethodHandle" ∧ yL_page.cls ≠ "java/lang/invoke/VarHandle" ∧ (parseMethodDescriptor yL_page.desc).map (fun d => d.parameters.length) = some 5 := by decide +kernel
theorem ynL_clock : yL_clock.cls ≠ "java/lang/invoke/MethodHandle" ∧ yL_clock.cls ≠ "java/lang/invoke/VarHandle" ∧ (parseMethodDescriptor yL_clock.desc).map (fun d => d.parameters.length) = some 3 := by decide +kernel
theorem ynL_judge : yL_judge.cls ≠ "java/lang/invoke/MethodHandle" ∧ yL_judge.cls ≠ "java/lang/invoke/VarHandle" ∧ (parseMethodDescriptor yL_judge.desc).map (fun d => d.parameters.length) = some 5 := by decide +kernel
theorem ynL_penalty : yL_penalty.cls ≠ "java/lang/invoke/MethodHandle" ∧ yL_penalty.cls ≠ "java/lang/invoke/VarHandle" ∧ (parseMethodDescriptor yL_penalty.desc).map (fun d => d.parameters.length) = some 4 := by decide +kernel
theorem ynL_ranked : yL_ranked.cls ≠ "java/lang/invoke/MethodHandle" ∧ yL_ranked.cls ≠ "java/lang/invoke/VarHandle" ∧ (parseMethodDescriptor yL_ranked.desc).map (fun d => d.parameters.length) = some 3 := by decide +kernel
theorem ynL_rehearse : yL_rehearse.cls ≠ "java/lang/invoke/MethodHandle" ∧ yL_rehearse.cls ≠ "java/lang/invoke/VarHandle" ∧ (parseMethodDescriptor yL_rehearse.desc).map (fun d => d.parameters.length) = some 4 := by decide +kernel
theorem dL_law_0 : decode cL_law 0 = .ok (.new 8, 3) := by decide +kernel
theorem dL_law_3 : decode cL_law 3 = .ok (.dup, 1) := by decide +kernel
theorem dL_law_4 : decode cL_law 4 = .ok (.invokespecial 94, 3) := by decide +kernel
theorem dL_law_7 : decode cL_law 7 = .ok (.astore_n 1, 1) := by decide +kernel
theorem dL_law_8 : decode cL_law 8 = .ok (.new 95, 3) := by decide +kernel
theorem dL_law_11 : decode cL_law 11 = .ok (.dup, 1) := by decide +kernel
theorem dL_law_12 : decode cL_law 12 = .ok (.invokespecial 97, 3) := by decide +kernel
theorem dL_law_15 : decode cL_law 15 = .ok (.astore_n 2, 1) := by decide +kernel
theorem dL_law_16 : decode cL_law 16 = .ok (.iconst 1, 1) := by decide +kernel
theorem dL_law_17 : decode cL_law 17 = .ok (.newarray .long, 2) := by decide +kernel
theorem dL_law_19 : decode cL_law 19 = .ok (.astore_n 3, 1) := by decide +kernel
theorem dL_law_20 : decode cL_law 20 = .ok (.iconst 0, 1) := by decide +kernel
theorem dL_law_21 : decode cL_law 21 = .ok (.istore 4, 2) := by decide +kernel
theorem dL_law_23 : decode cL_law 23 = .ok (.iload 4, 2) := by decide +kernel
theorem dL_law_25 : decode cL_law 25 = .ok (.aload_n 0, 1) := by decide +kernel
theorem dL_law_26 : decode cL_law 26 = .ok (.arraylength, 1) := by decide +kernel
theorem dL_law_27 : decode cL_law 27 = .ok (.bipush 6, 2) := by decide +kernel
theorem dL_law_29 : decode cL_law 29 = .ok (.isub, 1) := by decide +kernel
theorem dL_law_30 : decode cL_law 30 = .ok (.if_icmp .gt 1849, 3) := by decide +kernel
theorem dL_law_33 : decode cL_law 33 = .ok (.aload_n 0, 1) := by decide +kernel
theorem dL_law_34 : decode cL_law 34 = .ok (.iload 4, 2) := by decide +kernel
theorem dL_law_36 : decode cL_law 36 = .ok (.iaload, 1) := by decide +kernel
theorem dL_law_37 : decode cL_law 37 = .ok (.bipush 31, 2) := by decide +kernel
theorem dL_law_39 : decode cL_law 39 = .ok (.iand, 1) := by decide +kernel
theorem dL_law_40 : decode cL_law 40 = .ok (.tableswitch 1833 0 25 #[120, 156, 224, 315, 391, 483, 575, 655, 763, 863, 907, 975, 1030, 1110, 1178, 1191, 1283, 1394, 1474, 1487, 1500, 1513, 1561, 1641, 1709, 1765], 120) := by decide +kernel
theorem dL_law_1873 : decode cL_law 1873 = .ok (.iinc 4 6, 3) := by decide +kernel
theorem dL_law_1876 : decode cL_law 1876 = .ok (.goto (-1853), 3) := by decide +kernel
theorem dL_law_1879 : decode cL_law 1879 = .ok (.iconst 1, 1) := by decide +kernel
theorem dL_law_1880 : decode cL_law 1880 = .ok (.ireturn, 1) := by decide +kernel
theorem dL_law_160 : decode cL_law 160 = .ok (.aload_n 1, 1) := by decide +kernel
theorem dL_law_161 : decode cL_law 161 = .ok (.aload_n 0, 1) := by decide +kernel
theorem dL_law_162 : decode cL_law 162 = .ok (.iload 4, 2) := by decide +kernel
theorem dL_law_164 : decode cL_law 164 = .ok (.iconst 1, 1) := by decide +kernel
theorem dL_law_165 : decode cL_law 165 = .ok (.iadd, 1) := by decide +kernel
theorem dL_law_166 : decode cL_law 166 = .ok (.iaload, 1) := by decide +kernel
theorem dL_law_167 : decode cL_law 167 = .ok (.invokestatic 98, 3) := by decide +kernel
theorem dL_law_170 : decode cL_law 170 = .ok (.istore 5, 2) := by decide +kernel
theorem dL_law_172 : decode cL_law 172 = .ok (.aload_n 2, 1) := by decide +kernel
theorem dL_law_173 : decode cL_law 173 = .ok (.aload_n 0, 1) := by decide +kernel
theorem dL_law_174 : decode cL_law 174 = .ok (.iload 4, 2) := by decide +kernel
theorem dL_law_176 : decode cL_law 176 = .ok (.iconst 1, 1) := by decide +kernel
theorem dL_law_177 : decode cL_law 177 = .ok (.iadd, 1) := by decide +kernel
theorem dL_law_178 : decode cL_law 178 = .ok (.iaload, 1) := by decide +kernel
theorem dL_law_179 : decode cL_law 179 = .ok (.invokevirtual 103, 3) := by decide +kernel
theorem dL_law_182 : decode cL_law 182 = .ok (.aload_n 2, 1) := by decide +kernel
theorem dL_law_183 : decode cL_law 183 = .ok (.invokevirtual 104, 3) := by decide +kernel
theorem dL_law_186 : decode cL_law 186 = .ok (.iload 5, 2) := by decide +kernel
theorem dL_law_188 : decode cL_law 188 = .ok (.if_icmp .eq 5, 3) := by decide +kernel
theorem dL_law_191 : decode cL_law 191 = .ok (.iconst 0, 1) := by decide +kernel
theorem dL_law_192 : decode cL_law 192 = .ok (.ireturn, 1) := by decide +kernel
theorem dL_law_193 : decode cL_law 193 = .ok (.goto 1680, 3) := by decide +kernel
def fLaw_0 (xs : Nat → Int32) (nL : Nat) (i : Int32) (m : dM) : Option dM := dg (dIx (i + 1) nL) ((fL_band m 0 (xs (Int32.toNatClampNeg (i + 1)))).bind (fun q => dP2 q (fun v3 m2 => dg (dIx (i + 1) nL) ((fX12_band m2 444 (xs (Int32.toNatClampNeg (i + 1)))).bind (fun m5 => (fX12_thrown m5 444).bind (fun v7 => if v7 = v3 then some m5 else none))))))
set_option maxHeartbeats 4000000 in
set_option maxRecDepth 100000 in
theorem kLaw_0 {p : Program} {l : Launch} {e : Env} {s : State} {mth : MethodId} {below : List Frame} {meth : Method} {c : Code} {b nL : Nat} {xs : Nat → Int32} {g : dG} {Q : State → Prop} {H : Heap} {locs : List Loc} {cells slots : Nat} {ls : Array Slot} {i : Int32} {m m9 : dM} (hst : l.stackTraces = false) (S : CallFix p mth c cL_law 8 s #[Value.ref b] wsL_law RL) (hX : va_X b nL xs s s.heap) (hbl : b < s.heap.size) (hbA : ¬ dA g b) (hE : dEnv g s) (hR : cells + 6 ≤ room_1.cells ∧ slots + 36 ≤ room_1.slots) (h : fLaw_0 xs nL i m = some m9) (hP : va_P g.1 vwCl (dws g m) H) (hS : va_S (dA g) s.heap H locs) (hl : lv_has ls 8 [(4, .int i), (0, .ref b), (1, .ref (dad g 0)), (2, .ref (dad g 444)), (3, .ref (dad g 463))])
    (kk : ∀ (H : Heap) (locs : List Loc) (ls : Array Slot) (cells2 slots2 : Nat), cells2 ≤ cells + 6 → slots2 ≤ slots + 36 → va_P g.1 vwCl (dws g m9) H → va_S (dA g) s.heap H locs → lv_has ls 8 [(4, .int i), (0, .ref b), (1, .ref (dad g 0)), (2, .ref (dad g 444)), (3, .ref (dad g 463))] → W p l e room_1 s mth #[Value.ref b] below meth c H locs cells2 slots2 Q (F0 mth 1873 ls [])) : W p l e room_1 s mth #[Value.ref b] below meth c H locs cells slots Q (F0 mth 160 ls []) := by
  obtain ⟨hR1, hR2⟩ := hR
  unfold fLaw_0 at h
  refine lv_aload_n S.1 S.2.1 dL_law_160 rfl (lv_at hl 2 rfl) ?_
  refine lv_aload_n S.1 S.2.1 dL_law_161 rfl (lv_at hl 1 rfl) ?_
  refine lv_iload S.1 S.2.1 dL_law_162 (lv_at hl 0 rfl) ?_
  refine lv_iconst (v := 1) S.1 S.2.1 dL_law_164 (by decide) ?_
  refine lv_iadd S.1 S.2.1 dL_law_165 ?_
  obtain ⟨hi, h⟩ := d_g h
  refine va_sld S.1 S.2.1 hX hbl hbA hS (dIx_in hi) dL_law_166 ?_
  obtain ⟨⟨v3, m2⟩, hc1, h⟩ := d_b h
  have h := d_p2 h
  refine dLri (vx_runSX (As := [.ref (dad g 0), .int (xs (Int32.toNatClampNeg (i + 1)))]) (rest := []) S (kL_band l g hst hc1) (vx_cwSW 2 S.2.2.2.2 gL_law_L_band rfl rfl rfl ynL_band ⟨(Nat.le_of_ble_eq_true rfl), (Nat.le_of_ble_eq_true rfl)⟩) (dpS hE hP hS) rfl rfl hl.1 rfl (lv_room (Nat.le_of_ble_eq_true rfl)) dL_law_167 ⟨by omega, by omega⟩) hS (fun H locs hP hS => ?_)
  refine lv_istore (lv' := [(5, .int v3), (4, .int i), (0, .ref b), (1, .ref (dad g 0)), (2, .ref (dad g 444)), (3, .ref (dad g 463))]) S.1 S.2.1 dL_law_170 hl (by decide) rfl (fun ls hl => ?_)
  refine lv_aload_n S.1 S.2.1 dL_law_172 rfl (lv_at hl 4 rfl) ?_
  refine lv_aload_n S.1 S.2.1 dL_law_173 rfl (lv_at hl 2 rfl) ?_
  refine lv_iload S.1 S.2.1 dL_law_174 (lv_at hl 1 rfl) ?_
  refine lv_iconst (v := 1) S.1 S.2.1 dL_law_176 (by decide) ?_
  refine lv_iadd S.1 S.2.1 dL_law_177 ?_
  obtain ⟨hi, h⟩ := d_g h
  refine va_sld S.1 S.2.1 hX hbl hbA hS (dIx_in hi) dL_law_178 ?_
  obtain ⟨m5, hc4, h⟩ := d_b h
  refine drv (va_runV (As := [.int (xs (Int32.toNatClampNeg (i + 1)))]) (rest := []) S (kX12_band l g hc4) (cwV 1 S.2.2.2.2 gL_law_X12_band rfl rfl rfl ynX12_band ⟨Nat.le_of_ble_eq_true rfl, Nat.le_of_ble_eq_true rfl⟩) (dpV hE hP hS (ci := 12) rfl (dat13 dk_444)) rfl rfl hl.1 rfl (lv_room (Nat.le_of_ble_eq_true rfl)) dL_law_179 ⟨by omega, by omega⟩) hS (fun H locs hP hS => ?_)
  refine lv_aload_n S.1 S.2.1 dL_law_182 rfl (lv_at hl 4 rfl) ?_
  obtain ⟨v7, hc6, h⟩ := d_b h
  refine dri (va_runV (As := []) (rest := []) S (kX12_thrown l g hc6) (cwV 0 S.2.2.2.2 gL_law_X12_thrown rfl rfl rfl ynX12_thrown ⟨Nat.le_of_ble_eq_true rfl, Nat.le_of_ble_eq_true rfl⟩) (dpV hE hP hS (ci := 12) rfl (dat13 dk_444)) rfl rfl hl.1 rfl (lv_room (Nat.le_of_ble_eq_true rfl)) dL_law_183 ⟨by omega, by omega⟩) hS (fun H locs hP hS => ?_)
  refine lv_iload S.1 S.2.1 dL_law_186 (lv_at hl 0 rfl) ?_
  refine lv_icmp_eq (tgt := 193) S.1 S.2.1 dL_law_188 (by decide) (fun cq => ?_) (fun cq => ?_)
  · have h := d_t cq h
    refine lv_goto (tgt := 1873) S.1 S.2.1 dL_law_193 (by decide) ?_
    obtain rfl := Option.some.inj h
    exact kk H locs ls _ _ (by omega) (by omega) hP hS (lv_sub hl [1, 2, 3, 4, 5] rfl)
  · have h := d_f cq h
    cases h
theorem dL_law_196 : decode cL_law 196 = .ok (.aload_n 1, 1) := by decide +kernel
theorem dL_law_197 : decode cL_law 197 = .ok (.aload_n 0, 1) := by decide +kernel
theorem dL_law_198 : decode cL_law 198 = .ok (.iload 4, 2) := by decide +kernel
theorem dL_law_200 : decode cL_law 200 = .ok (.iconst 1, 1) := by decide +kernel
theorem dL_law_201 : decode cL_law 201 = .ok (.iadd, 1) := by decide +kernel
theorem dL_law_202 : decode cL_law 202 = .ok (.iaload, 1) := by decide +kernel
theorem dL_law_203 : decode cL_law 203 = .ok (.aload_n 0, 1) := by decide +kernel
theorem dL_law_204 : decode cL_law 204 = .ok (.iload 4, 2) := by decide +kernel
theorem dL_law_206 : decode cL_law 206 = .ok (.iconst 2, 1) := by decide +kernel
theorem dL_law_207 : decode cL_law 207 = .ok (.iadd, 1) := by decide +kernel
theorem dL_law_208 : decode cL_law 208 = .ok (.iaload, 1) := by decide +kernel
theorem dL_law_209 : decode cL_law 209 = .ok (.aload_n 3, 1) := by decide +kernel
theorem dL_law_210 : decode cL_law 210 = .ok (.invokestatic 107, 3) := by decide +kernel
theorem dL_law_213 : decode cL_law 213 = .ok (.istore 5, 2) := by decide +kernel
theorem dL_law_215 : decode cL_law 215 = .ok (.aload_n 2, 1) := by decide +kernel
theorem dL_law_216 : decode cL_law 216 = .ok (.aload_n 0, 1) := by decide +kernel
theorem dL_law_217 : decode cL_law 217 = .ok (.iload 4, 2) := by decide +kernel
theorem dL_law_219 : decode cL_law 219 = .ok (.iconst 1, 1) := by decide +kernel
theorem dL_law_220 : decode cL_law 220 = .ok (.iadd, 1) := by decide +kernel
theorem dL_law_221 : decode cL_law 221 = .ok (.iaload, 1) := by decide +kernel
theorem dL_law_222 : decode cL_law 222 = .ok (.aload_n 0, 1) := by decide +kernel
theorem dL_law_223 : decode cL_law 223 = .ok (.iload 4, 2) := by decide +kernel
theorem dL_law_225 : decode cL_law 225 = .ok (.iconst 2, 1) := by decide +kernel
theorem dL_law_226 : decode cL_law 226 = .ok (.iadd, 1) := by decide +kernel
theorem dL_law_227 : decode cL_law 227 = .ok (.iaload, 1) := by decide +kernel
theorem dL_law_228 : decode cL_law 228 = .ok (.invokevirtual 110, 3) := by decide +kernel
theorem dL_law_231 : decode cL_law 231 = .ok (.istore 6, 2) := by decide +kernel
theorem dL_law_233 : decode cL_law 233 = .ok (.aload_n 2, 1) := by decide +kernel
theorem dL_law_234 : decode cL_law 234 = .ok (.invokevirtual 104, 3) := by decide +kernel
theorem dL_law_237 : decode cL_law 237 = .ok (.iload 5, 2) := by decide +kernel
theorem dL_law_239 : decode cL_law 239 = .ok (.if_icmp .eq 5, 3) := by decide +kernel
theorem dL_law_242 : decode cL_law 242 = .ok (.iconst 0, 1) := by decide +kernel
theorem dL_law_243 : decode cL_law 243 = .ok (.ireturn, 1) := by decide +kernel
theorem dL_law_244 : decode cL_law 244 = .ok (.iload 5, 2) := by decide +kernel
theorem dL_law_246 : decode cL_law 246 = .ok (.ifCond .ne 15, 3) := by decide +kernel
theorem dL_law_249 : decode cL_law 249 = .ok (.aload_n 3, 1) := by decide +kernel
theorem dL_law_250 : decode cL_law 250 = .ok (.iconst 0, 1) := by decide +kernel
theorem dL_law_251 : decode cL_law 251 = .ok (.laload, 1) := by decide +kernel
theorem dL_law_252 : decode cL_law 252 = .ok (.iload 6, 2) := by decide +kernel
theorem dL_law_254 : decode cL_law 254 = .ok (.i2l, 1) := by decide +kernel
theorem dL_law_255 : decode cL_law 255 = .ok (.lcmp, 1) := by decide +kernel
theorem dL_law_256 : decode cL_law 256 = .ok (.ifCond .eq 5, 3) := by decide +kernel
theorem dL_law_259 : decode cL_law 259 = .ok (.iconst 0, 1) := by decide +kernel
theorem dL_law_260 : decode cL_law 260 = .ok (.ireturn, 1) := by decide +kernel
theorem dL_law_261 : decode cL_law 261 = .ok (.goto 1612, 3) := by decide +kernel
def fLaw_1 (xs : Nat → Int32) (nL : Nat) (i : Int32) (m : dM) : Option dM := dg (dIx (i + 1) nL) (dg (dIx (i + 2) nL) ((fL_legs m 0 (xs (Int32.toNatClampNeg (i + 1))) (xs (Int32.toNatClampNeg (i + 2))) 463).bind (fun q => dP2 q (fun v3 m2 => dg (dIx (i + 1) nL) (dg (dIx (i + 2) nL) ((fX12_legs m2 444 (xs (Int32.toNatClampNeg (i + 1))) (xs (Int32.toNatClampNeg (i + 2)))).bind (fun q => dP2 q (fun v6 m5 => (fX12_thrown m5 444).bind (fun v8 => if v8 = v3 then if v3 = 0 then dg (dIx 0 (dL 463)) (if (lg_cmp (m5.2 463 (Int32.toNatClampNeg (0))) (Int32.toInt64 v6)) = 0 then some m5 else none) else some m5 else none)))))))))
set_option maxHeartbeats 4000000 in
set_option maxRecDepth 100000 in
theorem kLaw_1 {p : Program} {l : Launch} {e : Env} {s : State} {mth : MethodId} {below : List Frame} {meth : Method} {c : Code} {b nL : Nat} {xs : Nat → Int32} {g : dG} {Q : State → Prop} {H : Heap} {locs : List Loc} {cells slots : Nat} {ls : Array Slot} {i : Int32} {m m9 : dM} (hst : l.stackTraces = false) (S : CallFix p mth c cL_law 8 s #[Value.ref b] wsL_law RL) (hX : va_X b nL xs s s.heap) (hbl : b < s.heap.size) (hbA : ¬ dA g b) (hE : dEnv g s) (hR : cells + 6 ≤ room_1.cells ∧ slots + 36 ≤ room_1.slots) (h : fLaw_1 xs nL i m = some m9) (hP : va_P g.1 vwCl (dws g m) H) (hS : va_S (dA g) s.heap H locs) (hl : lv_has ls 8 [(4, .int i), (0, .ref b), (1, .ref (dad g 0)), (2, .ref (dad g 444)), (3, .ref (dad g 463))])
    (kk : ∀ (H : Heap) (locs : List Loc) (ls : Array Slot) (cells2 slots2 : Nat), cells2 ≤ cells + 6 → slots2 ≤ slots + 36 → va_P g.1 vwCl (dws g m9) H → va_S (dA g) s.heap H locs → lv_has ls 8 [(4, .int i), (0, .ref b), (1, .ref (dad g 0)), (2, .ref (dad g 444)), (3, .ref (dad g 463))] → W p l e room_1 s mth #[Value.ref b] below meth c H locs cells2 slots2 Q (F0 mth 1873 ls [])) : W p l e room_1 s mth #[Value.ref b] below meth c H locs cells slots Q (F0 mth 196 ls []) := by
  obtain ⟨hR1, hR2⟩ := hR
  unfold fLaw_1 at h
  refine lv_aload_n S.1 S.2.1 dL_law_196 rfl (lv_at hl 2 rfl) ?_
  refine lv_aload_n S.1 S.2.1 dL_law_197 rfl (lv_at hl 1 rfl) ?_
  refine lv_iload S.1 S.2.1 dL_law_198 (lv_at hl 0 rfl) ?_
  refine lv_iconst (v := 1) S.1 S.2.1 dL_law_200 (by decide) ?_
  refine lv_iadd S.1 S.2.1 dL_law_201 ?_
  obtain ⟨hi, h⟩ := d_g h
  refine va_sld S.1 S.2.1 hX hbl hbA hS (dIx_in hi) dL_law_202 ?_
  refine lv_aload_n S.1 S.2.1 dL_law_203 rfl (lv_at hl 1 rfl) ?_
  refine lv_iload S.1 S.2.1 dL_law_204 (lv_at hl 0 rfl) ?_
  refine lv_iconst (v := 2) S.1 S.2.1 dL_law_206 (by decide) ?_
  refine lv_iadd S.1 S.2.1 dL_law_207 ?_
  obtain ⟨hi, h⟩ := d_g h
  refine va_sld S.1 S.2.1 hX hbl hbA hS (dIx_in hi) dL_law_208 ?_
  refine lv_aload_n S.1 S.2.1 dL_law_209 rfl (lv_at hl 4 rfl) ?_
  obtain ⟨⟨v3, m2⟩, hc1, h⟩ := d_b h
  have h := d_p2 h
  refine dLri (vx_runSX (As := [.ref (dad g 0), .int (xs (Int32.toNatClampNeg (i + 1))), .int (xs (Int32.toNatClampNeg (i + 2))), .ref (dad g 463)]) (rest := []) S (kL_legs l g hst hc1) (vx_cwSW 4 S.2.2.2.2 gL_law_L_legs rfl rfl rfl ynL_legs ⟨(Nat.le_of_ble_eq_true rfl), (Nat.le_of_ble_eq_true rfl)⟩) (dpS hE hP hS) rfl rfl hl.1 rfl (lv_room (Nat.le_of_ble_eq_true rfl)) dL_law_210 ⟨by omega, by omega⟩) hS (fun H locs hP hS => ?_)
  refine lv_istore (lv' := [(5, .int v3), (4, .int i), (0, .ref b), (1, .ref (dad g 0)), (2, .ref (dad g 444)), (3, .ref (dad g 463))]) S.1 S.2.1 dL_law_213 hl (by decide) rfl (fun ls hl => ?_)
  refine lv_aload_n S.1 S.2.1 dL_law_215 rfl (lv_at hl 4 rfl) ?_
  refine lv_aload_n S.1 S.2.1 dL_law_216 rfl (lv_at hl 2 rfl) ?_
  refine lv_iload S.1 S.2.1 dL_law_217 (lv_at hl 1 rfl) ?_
  refine lv_iconst (v := 1) S.1 S.2.1 dL_law_219 (by decide) ?_
  refine lv_iadd S.1 S.2.1 dL_law_220 ?_
  obtain ⟨hi, h⟩ := d_g h
  refine va_sld S.1 S.2.1 hX hbl hbA hS (dIx_in hi) dL_law_221 ?_
  refine lv_aload_n S.1 S.2.1 dL_law_222 rfl (lv_at hl 2 rfl) ?_
  refine lv_iload S.1 S.2.1 dL_law_223 (lv_at hl 1 rfl) ?_
  refine lv_iconst (v := 2) S.1 S.2.1 dL_law_225 (by decide) ?_
  refine lv_iadd S.1 S.2.1 dL_law_226 ?_
  obtain ⟨hi, h⟩ := d_g h
  refine va_sld S.1 S.2.1 hX hbl hbA hS (dIx_in hi) dL_law_227 ?_
  obtain ⟨⟨v6, m5⟩, hc4, h⟩ := d_b h
  have h := d_p2 h
  refine dri (va_runV (As := [.int (xs (Int32.toNatClampNeg (i + 1))), .int (xs (Int32.toNatClampNeg (i + 2)))]) (rest := []) S (kX12_legs l g hc4) (cwV 2 S.2.2.2.2 gL_law_X12_legs rfl rfl rfl ynX12_legs ⟨Nat.le_of_ble_eq_true rfl, Nat.le_of_ble_eq_true rfl⟩) (dpV hE hP hS (ci := 12) rfl (dat13 dk_444)) rfl rfl hl.1 rfl (lv_room (Nat.le_of_ble_eq_true rfl)) dL_law_228 ⟨by omega, by omega⟩) hS (fun H locs hP hS => ?_)
  refine lv_istore (lv' := [(6, .int v6), (5, .int v3), (4, .int i), (0, .ref b), (1, .ref (dad g 0)), (2, .ref (dad g 444)), (3, .ref (dad g 463))]) S.1 S.2.1 dL_law_231 hl (by decide) rfl (fun ls hl => ?_)
  refine lv_aload_n S.1 S.2.1 dL_law_233 rfl (lv_at hl 5 rfl) ?_
  obtain ⟨v8, hc7, h⟩ := d_b h
  refine dri (va_runV (As := []) (rest := []) S (kX12_thrown l g hc7) (cwV 0 S.2.2.2.2 gL_law_X12_thrown rfl rfl rfl ynX12_thrown ⟨Nat.le_of_ble_eq_true rfl, Nat.le_of_ble_eq_true rfl⟩) (dpV hE hP hS (ci := 12) rfl (dat13 dk_444)) rfl rfl hl.1 rfl (lv_room (Nat.le_of_ble_eq_true rfl)) dL_law_234 ⟨by omega, by omega⟩) hS (fun H locs hP hS => ?_)
  refine lv_iload S.1 S.2.1 dL_law_237 (lv_at hl 1 rfl) ?_
  refine lv_icmp_eq (tgt := 244) S.1 S.2.1 dL_law_239 (by decide) (fun cq => ?_) (fun cq => ?_)
  · have h := d_t cq h
    refine lv_iload S.1 S.2.1 dL_law_244 (lv_at hl 1 rfl) ?_
    refine lv_if_ne (tgt := 261) S.1 S.2.1 dL_law_246 (by decide) (fun cq => ?_) (fun cq => ?_)
    · have h := d_f cq h
      refine lv_goto (tgt := 1873) S.1 S.2.1 dL_law_261 (by decide) ?_
      obtain rfl := Option.some.inj h
      exact kk H locs ls _ _ (by omega) (by omega) hP hS (lv_sub hl [2, 3, 4, 5, 6] rfl)
    · have h := d_t cq h
      refine lv_aload_n S.1 S.2.1 dL_law_249 rfl (lv_at hl 6 rfl) ?_
      refine lv_iconst (v := 0) S.1 S.2.1 dL_law_250 (by decide) ?_
      obtain ⟨hi, h⟩ := d_g h
      refine d_lald S hE hP dk_463 hi dL_law_251 ?_
      refine lv_iload S.1 S.2.1 dL_law_252 (lv_at hl 0 rfl) ?_
      refine lv_i2l S.1 S.2.1 dL_law_254 rfl ?_
      refine W.lcmp S.1 S.2.1 dL_law_255 ?_
      refine lv_if_eq (tgt := 261) S.1 S.2.1 dL_law_256 (by decide) (fun cq => ?_) (fun cq => ?_)
      · have h := d_t cq h
        refine lv_goto (tgt := 1873) S.1 S.2.1 dL_law_261 (by decide) ?_
        obtain rfl := Option.some.inj h
        exact kk H locs ls _ _ (by omega) (by omega) hP hS (lv_sub hl [2, 3, 4, 5, 6] rfl)
      · have h := d_f cq h
        cases h
  · have h := d_f cq h
    cases h
theorem dL_law_264 : decode cL_law 264 = .ok (.aload_n 1, 1) := by decide +kernel
theorem dL_law_265 : decode cL_law 265 = .ok (.aload_n 0, 1) := by decide +kernel
theorem dL_law_266 : decode cL_law 266 = .ok (.iload 4, 2) := by decide +kernel
theorem dL_law_268 : decode cL_law 268 = .ok (.iconst 1, 1) := by decide +kernel
theorem dL_law_269 : decode cL_law 269 = .ok (.iadd, 1) := by decide +kernel
theorem dL_law_270 : decode cL_law 270 = .ok (.iaload, 1) := by decide +kernel
theorem dL_law_271 : decode cL_law 271 = .ok (.aload_n 0, 1) := by decide +kernel
theorem dL_law_272 : decode cL_law 272 = .ok (.iload 4, 2) := by decide +kernel
theorem dL_law_274 : decode cL_law 274 = .ok (.iconst 2, 1) := by decide +kernel
theorem dL_law_275 : decode cL_law 275 = .ok (.iadd, 1) := by decide +kernel
theorem dL_law_276 : decode cL_law 276 = .ok (.iaload, 1) := by decide +kernel
theorem dL_law_277 : decode cL_law 277 = .ok (.ifCond .eq 7, 3) := by decide +kernel
theorem dL_law_280 : decode cL_law 280 = .ok (.iconst 1, 1) := by decide +kernel
theorem dL_law_281 : decode cL_law 281 = .ok (.goto 4, 3) := by decide +kernel
theorem dL_law_284 : decode cL_law 284 = .ok (.iconst 0, 1) := by decide +kernel
theorem dL_law_285 : decode cL_law 285 = .ok (.aload_n 3, 1) := by decide +kernel
theorem dL_law_286 : decode cL_law 286 = .ok (.invokestatic 111, 3) := by decide +kernel
theorem dL_law_289 : decode cL_law 289 = .ok (.istore 5, 2) := by decide +kernel
theorem dL_law_291 : decode cL_law 291 = .ok (.aload_n 2, 1) := by decide +kernel
theorem dL_law_292 : decode cL_law 292 = .ok (.aload_n 0, 1) := by decide +kernel
theorem dL_law_293 : decode cL_law 293 = .ok (.iload 4, 2) := by decide +kernel
theorem dL_law_295 : decode cL_law 295 = .ok (.iconst 1, 1) := by decide +kernel
theorem dL_law_296 : decode cL_law 296 = .ok (.iadd, 1) := by decide +kernel
theorem dL_law_297 : decode cL_law 297 = .ok (.iaload, 1) := by decide +kernel
theorem dL_law_298 : decode cL_law 298 = .ok (.aload_n 0, 1) := by decide +kernel
theorem dL_law_299 : decode cL_law 299 = .ok (.iload 4, 2) := by decide +kernel
theorem dL_law_301 : decode cL_law 301 = .ok (.iconst 2, 1) := by decide +kernel
theorem dL_law_302 : decode cL_law 302 = .ok (.iadd, 1) := by decide +kernel
theorem dL_law_303 : decode cL_law 303 = .ok (.iaload, 1) := by decide +kernel
theorem dL_law_304 : decode cL_law 304 = .ok (.ifCond .eq 7, 3) := by decide +kernel
theorem dL_law_307 : decode cL_law 307 = .ok (.iconst 1, 1) := by decide +kernel
theorem dL_law_308 : decode cL_law 308 = .ok (.goto 4, 3) := by decide +kernel
theorem dL_law_311 : decode cL_law 311 = .ok (.iconst 0, 1) := by decide +kernel
theorem dL_law_312 : decode cL_law 312 = .ok (.invokevirtual 114, 3) := by decide +kernel
theorem dL_law_315 : decode cL_law 315 = .ok (.istore 6, 2) := by decide +kernel
theorem dL_law_317 : decode cL_law 317 = .ok (.aload_n 2, 1) := by decide +kernel
theorem dL_law_318 : decode cL_law 318 = .ok (.invokevirtual 104, 3) := by decide +kernel
theorem dL_law_321 : decode cL_law 321 = .ok (.iload 5, 2) := by decide +kernel
theorem dL_law_323 : decode cL_law 323 = .ok (.if_icmp .eq 5, 3) := by decide +kernel
theorem dL_law_326 : decode cL_law 326 = .ok (.iconst 0, 1) := by decide +kernel
theorem dL_law_327 : decode cL_law 327 = .ok (.ireturn, 1) := by decide +kernel
theorem dL_law_328 : decode cL_law 328 = .ok (.iload 5, 2) := by decide +kernel
theorem dL_law_330 : decode cL_law 330 = .ok (.ifCond .ne 22, 3) := by decide +kernel
theorem dL_law_333 : decode cL_law 333 = .ok (.aload_n 3, 1) := by decide +kernel
theorem dL_law_334 : decode cL_law 334 = .ok (.iconst 0, 1) := by decide +kernel
theorem dL_law_335 : decode cL_law 335 = .ok (.laload, 1) := by decide +kernel
theorem dL_law_336 : decode cL_law 336 = .ok (.iload 6, 2) := by decide +kernel
theorem dL_law_338 : decode cL_law 338 = .ok (.ifCond .eq 7, 3) := by decide +kernel
theorem dL_law_341 : decode cL_law 341 = .ok (.lconst 1, 1) := by decide +kernel
theorem dL_law_342 : decode cL_law 342 = .ok (.goto 4, 3) := by decide +kernel
theorem dL_law_345 : decode cL_law 345 = .ok (.lconst 0, 1) := by decide +kernel
theorem dL_law_346 : decode cL_law 346 = .ok (.lcmp, 1) := by decide +kernel
theorem dL_law_347 : decode cL_law 347 = .ok (.ifCond .eq 5, 3) := by decide +kernel
theorem dL_law_350 : decode cL_law 350 = .ok (.iconst 0, 1) := by decide +kernel
theorem dL_law_351 : decode cL_law 351 = .ok (.ireturn, 1) := by decide +kernel
theorem dL_law_352 : decode cL_law 352 = .ok (.goto 1521, 3) := by decide +kernel
def fLaw_2 (xs : Nat → Int32) (nL : Nat) (i : Int32) (m : dM) : Option dM := dg (dIx (i + 1) nL) (dg (dIx (i + 2) nL) (if (xs (Int32.toNatClampNeg (i + 2))) = 0 then (fL_ill m 0 (xs (Int32.toNatClampNeg (i + 1))) 0 463).bind (fun q => dP2 q (fun v3 m2 => dg (dIx (i + 1) nL) (dg (dIx (i + 2) nL) (if (xs (Int32.toNatClampNeg (i + 2))) = 0 then (fX12_ill m2 444 (xs (Int32.toNatClampNeg (i + 1))) 0).bind (fun q => dP2 q (fun v6 m5 => (fX12_thrown m5 444).bind (fun v8 => if v8 = v3 then if v3 = 0 then dg (dIx 0 (dL 463)) (if v6 = 0 then if (lg_cmp (m5.2 463 (Int32.toNatClampNeg (0))) 0) = 0 then some m5 else none else if (lg_cmp (m5.2 463 (Int32.toNatClampNeg (0))) 1) = 0 then some m5 else none) else some m5 else none))) else (fX12_ill m2 444 (xs (Int32.toNatClampNeg (i + 1))) 1).bind (fun q => dP2 q (fun v11 m10 => (fX12_thrown m10 444).bind (fun v13 => if v13 = v3 then if v3 = 0 then dg (dIx 0 (dL 463)) (if v11 = 0 then if (lg_cmp (m10.2 463 (Int32.toNatClampNeg (0))) 0) = 0 then some m10 else none else if (lg_cmp (m10.2 463 (Int32.toNatClampNeg (0))) 1) = 0 then some m10 else none) else some m10 else none))))))) else (fL_ill m 0 (xs (Int32.toNatClampNeg (i + 1))) 1 463).bind (fun q => dP2 q (fun v16 m15 => dg (dIx (i + 1) nL) (dg (dIx (i + 2) nL) (if (xs (Int32.toNatClampNeg (i + 2))) = 0 then (fX12_ill m15 444 (xs (Int32.toNatClampNeg (i + 1))) 0).bind (fun q => dP2 q (fun v19 m18 => (fX12_thrown m18 444).bind (fun v21 => if v21 = v16 then if v16 = 0 then dg (dIx 0 (dL 463)) (if v19 = 0 then if (lg_cmp (m18.2 463 (Int32.toNatClampNeg (0))) 0) = 0 then some m18 else none else if (lg_cmp (m18.2 463 (Int32.toNatClampNeg (0))) 1) = 0 then some m18 else none) else some m18 else none))) else (fX12_ill m15 444 (xs (Int32.toNatClampNeg (i + 1))) 1).bind (fun q => dP2 q (fun v24 m23 => (fX12_thrown m23 444).bind (fun v26 => if v26 = v16 then if v16 = 0 then dg (dIx 0 (dL 463)) (if v24 = 0 then if (lg_cmp (m23.2 463 (Int32.toNatClampNeg (0))) 0) = 0 then some m23 else none else if (lg_cmp (m23.2 463 (Int32.toNatClampNeg (0))) 1) = 0 then some m23 else none) else some m23 else none)))))))))
set_option maxHeartbeats 4000000 in
set_option maxRecDepth 100000 in
theorem kLaw_2 {p : Program} {l : Launch} {e : Env} {s : State} {mth : MethodId} {below : List Frame} {meth : Method} {c : Code} {b nL : Nat} {xs : Nat → Int32} {g : dG} {Q : State → Prop} {H : Heap} {locs : List Loc} {cells slots : Nat} {ls : Array Slot} {i : Int32} {m m9 : dM} (hst : l.stackTraces = false) (S : CallFix p mth c cL_law 8 s #[Value.ref b] wsL_law RL) (hX : va_X b nL xs s s.heap) (hbl : b < s.heap.size) (hbA : ¬ dA g b) (hE : dEnv g s) (hR : cells + 6 ≤ room_1.cells ∧ slots + 36 ≤ room_1.slots) (h : fLaw_2 xs nL i m = some m9) (hP : va_P g.1 vwCl (dws g m) H) (hS : va_S (dA g) s.heap H locs) (hl : lv_has ls 8 [(4, .int i), (0, .ref b), (1, .ref (dad g 0)), (2, .ref (dad g 444)), (3, .ref (dad g 463))])
    (kk : ∀ (H : Heap) (locs : List Loc) (ls : Array Slot) (cells2 slots2 : Nat), cells2 ≤ cells + 6 → slots2 ≤ slots + 36 → va_P g.1 vwCl (dws g m9) H → va_S (dA g) s.heap H locs → lv_has ls 8 [(4, .int i), (0, .ref b), (1, .ref (dad g 0)), (2, .ref (dad g 444)), (3, .ref (dad g 463))] → W p l e room_1 s mth #[Value.ref b] below meth c H locs cells2 slots2 Q (F0 mth 1873 ls [])) : W p l e room_1 s mth #[Value.ref b] below meth c H locs cells slots Q (F0 mth 264 ls []) := by
  obtain ⟨hR1, hR2⟩ := hR
  unfold fLaw_2 at h
  refine lv_aload_n S.1 S.2.1 dL_law_264 rfl (lv_at hl 2 rfl) ?_
  refine lv_aload_n S.1 S.2.1 dL_law_265 rfl (lv_at hl 1 rfl) ?_
  refine lv_iload S.1 S.2.1 dL_law_266 (lv_at hl 0 rfl) ?_
  refine lv_iconst (v := 1) S.1 S.2.1 dL_law_268 (by decide) ?_
  refine lv_iadd S.1 S.2.1 dL_law_269 ?_
  obtain ⟨hi, h⟩ := d_g h
  refine va_sld S.1 S.2.1 hX hbl hbA hS (dIx_in hi) dL_law_270 ?_
  refine lv_aload_n S.1 S.2.1 dL_law_271 rfl (lv_at hl 1 rfl) ?_
  refine lv_iload S.1 S.2.1 dL_law_272 (lv_at hl 0 rfl) ?_
  refine lv_iconst (v := 2) S.1 S.2.1 dL_law_274 (by decide) ?_
  refine lv_iadd S.1 S.2.1 dL_law_275 ?_
  obtain ⟨hi, h⟩ := d_g h
  refine va_sld S.1 S.2.1 hX hbl hbA hS (dIx_in hi) dL_law_276 ?_
  refine lv_if_eq (tgt := 284) S.1 S.2.1 dL_law_277 (by decide) (fun cq => ?_) (fun cq => ?_)
  · have h := d_t cq h
    refine lv_iconst (v := 0) S.1 S.2.1 dL_law_284 (by decide) ?_
    refine lv_aload_n S.1 S.2.1 dL_law_285 rfl (lv_at hl 4 rfl) ?_
    obtain ⟨⟨v3, m2⟩, hc1, h⟩ := d_b h
    have h := d_p2 h
    refine dLri (vx_runSX (As := [.ref (dad g 0), .int (xs (Int32.toNatClampNeg (i + 1))), .int 0, .ref (dad g 463)]) (rest := []) S (kL_ill l g hst hc1) (vx_cwSW 4 S.2.2.2.2 gL_law_L_ill rfl rfl rfl ynL_ill ⟨(Nat.le_of_ble_eq_true rfl), (Nat.le_of_ble_eq_true rfl)⟩) (dpS hE hP hS) rfl rfl hl.1 rfl (lv_room (Nat.le_of_ble_eq_true rfl)) dL_law_286 ⟨by omega, by omega⟩) hS (fun H locs hP hS => ?_)
    refine lv_istore (lv' := [(5, .int v3), (4, .int i), (0, .ref b), (1, .ref (dad g 0)), (2, .ref (dad g 444)), (3, .ref (dad g 463))]) S.1 S.2.1 dL_law_289 hl (by decide) rfl (fun ls hl => ?_)
    refine lv_aload_n S.1 S.2.1 dL_law_291 rfl (lv_at hl 4 rfl) ?_
    refine lv_aload_n S.1 S.2.1 dL_law_292 rfl (lv_at hl 2 rfl) ?_
    refine lv_iload S.1 S.2.1 dL_law_293 (lv_at hl 1 rfl) ?_
    refine lv_iconst (v := 1) S.1 S.2.1 dL_law_295 (by decide) ?_
    refine lv_iadd S.1 S.2.1 dL_law_296 ?_
    obtain ⟨hi, h⟩ := d_g h
    refine va_sld S.1 S.2.1 hX hbl hbA hS (dIx_in hi) dL_law_297 ?_
    refine lv_aload_n S.1 S.2.1 dL_law_298 rfl (lv_at hl 2 rfl) ?_
    refine lv_iload S.1 S.2.1 dL_law_299 (lv_at hl 1 rfl) ?_
    refine lv_iconst (v := 2) S.1 S.2.1 dL_law_301 (by decide) ?_
    refine lv_iadd S.1 S.2.1 dL_law_302 ?_
    obtain ⟨hi, h⟩ := d_g h
    refine va_sld S.1 S.2.1 hX hbl hbA hS (dIx_in hi) dL_law_303 ?_
    refine lv_if_eq (tgt := 311) S.1 S.2.1 dL_law_304 (by decide) (fun cq => ?_) (fun cq => ?_)
    · have h := d_t cq h
      refine lv_iconst (v := 0) S.1 S.2.1 dL_law_311 (by decide) ?_
      obtain ⟨⟨v6, m5⟩, hc4, h⟩ := d_b h
      have h := d_p2 h
      refine dri (va_runV (As := [.int (xs (Int32.toNatClampNeg (i + 1))), .int 0]) (rest := []) S (kX12_ill l g hc4) (cwV 2 S.2.2.2.2 gL_law_X12_ill rfl rfl rfl ynX12_ill ⟨Nat.le_of_ble_eq_true rfl, Nat.le_of_ble_eq_true rfl⟩) (dpV hE hP hS (ci := 12) rfl (dat13 dk_444)) rfl rfl hl.1 rfl (lv_room (Nat.le_of_ble_eq_true rfl)) dL_law_312 ⟨by omega, by omega⟩) hS (fun H locs hP hS => ?_)
      refine lv_istore (lv' := [(6, .int v6), (5, .int v3), (4, .int i), (0, .ref b), (1, .ref (dad g 0)), (2, .ref (dad g 444)), (3, .ref (dad g 463))]) S.1 S.2.1 dL_law_315 hl (by decide) rfl (fun ls hl => ?_)
      refine lv_aload_n S.1 S.2.1 dL_law_317 rfl (lv_at hl 5 rfl) ?_
      obtain ⟨v8, hc7, h⟩ := d_b h
      refine dri (va_runV (As := []) (rest := []) S (kX12_thrown l g hc7) (cwV 0 S.2.2.2.2 gL_law_X12_thrown rfl rfl rfl ynX12_thrown ⟨Nat.le_of_ble_eq_true rfl, Nat.le_of_ble_eq_true rfl⟩) (dpV hE hP hS (ci := 12) rfl (dat13 dk_444)) rfl rfl hl.1 rfl (lv_room (Nat.le_of_ble_eq_true rfl)) dL_law_318 ⟨by omega, by omega⟩) hS (fun H locs hP hS => ?_)
      refine lv_iload S.1 S.2.1 dL_law_321 (lv_at hl 1 rfl) ?_
      refine lv_icmp_eq (tgt := 328) S.1 S.2.1 dL_law_323 (by decide) (fun cq => ?_) (fun cq => ?_)
      · have h := d_t cq h
        refine lv_iload S.1 S.2.1 dL_law_328 (lv_at hl 1 rfl) ?_
        refine lv_if_ne (tgt := 352) S.1 S.2.1 dL_law_330 (by decide) (fun cq => ?_) (fun cq => ?_)
        · have h := d_f cq h
          refine lv_goto (tgt := 1873) S.1 S.2.1 dL_law_352 (by decide) ?_
          obtain rfl := Option.some.inj h
          exact kk H locs ls _ _ (by omega) (by omega) hP hS (lv_sub hl [2, 3, 4, 5, 6] rfl)
        · have h := d_t cq h
          refine lv_aload_n S.1 S.2.1 dL_law_333 rfl (lv_at hl 6 rfl) ?_
          refine lv_iconst (v := 0) S.1 S.2.1 dL_law_334 (by decide) ?_
          obtain ⟨hi, h⟩ := d_g h
          refine d_lald S hE hP dk_463 hi dL_law_335 ?_
          refine lv_iload S.1 S.2.1 dL_law_336 (lv_at hl 0 rfl) ?_
          refine lv_if_eq (tgt := 345) S.1 S.2.1 dL_law_338 (by decide) (fun cq => ?_) (fun cq => ?_)
          · have h := d_t cq h
            refine lv_lconst (v := 0) S.1 S.2.1 dL_law_345 (by decide) ?_
            refine W.lcmp S.1 S.2.1 dL_law_346 ?_
            refine lv_if_eq (tgt := 352) S.1 S.2.1 dL_law_347 (by decide) (fun cq => ?_) (fun cq => ?_)
            · have h := d_t cq h
              refine lv_goto (tgt := 1873) S.1 S.2.1 dL_law_352 (by decide) ?_
              obtain rfl := Option.some.inj h
              exact kk H locs ls _ _ (by omega) (by omega) hP hS (lv_sub hl [2, 3, 4, 5, 6] rfl)
            · have h := d_f cq h
              cases h
          · have h := d_f cq h
            refine lv_lconst (v := 1) S.1 S.2.1 dL_law_341 (by decide) ?_
            refine lv_goto (tgt := 346) S.1 S.2.1 dL_law_342 (by decide) ?_
            refine W.lcmp S.1 S.2.1 dL_law_346 ?_
            refine lv_if_eq (tgt := 352) S.1 S.2.1 dL_law_347 (by decide) (fun cq => ?_) (fun cq => ?_)
            · have h := d_t cq h
              refine lv_goto (tgt := 1873) S.1 S.2.1 dL_law_352 (by decide) ?_
              obtain rfl := Option.some.inj h
              exact kk H locs ls _ _ (by omega) (by omega) hP hS (lv_sub hl [2, 3, 4, 5, 6] rfl)
            · have h := d_f cq h
              cases h
      · have h := d_f cq h
        cases h
    · have h := d_f cq h
      refine lv_iconst (v := 1) S.1 S.2.1 dL_law_307 (by decide) ?_
      refine lv_goto (tgt := 312) S.1 S.2.1 dL_law_308 (by decide) ?_
      obtain ⟨⟨v11, m10⟩, hc9, h⟩ := d_b h
      have h := d_p2 h
      refine dri (va_runV (As := [.int (xs (Int32.toNatClampNeg (i + 1))), .int 1]) (rest := []) S (kX12_ill l g hc9) (cwV 2 S.2.2.2.2 gL_law_X12_ill rfl rfl rfl ynX12_ill ⟨Nat.le_of_ble_eq_true rfl, Nat.le_of_ble_eq_true rfl⟩) (dpV hE hP hS (ci := 12) rfl (dat13 dk_444)) rfl rfl hl.1 rfl (lv_room (Nat.le_of_ble_eq_true rfl)) dL_law_312 ⟨by omega, by omega⟩) hS (fun H locs hP hS => ?_)
      refine lv_istore (lv' := [(6, .int v11), (5, .int v3), (4, .int i), (0, .ref b), (1, .ref (dad g 0)), (2, .ref (dad g 444)), (3, .ref (dad g 463))]) S.1 S.2.1 dL_law_315 hl (by decide) rfl (fun ls hl => ?_)
      refine lv_aload_n S.1 S.2.1 dL_law_317 rfl (lv_at hl 5 rfl) ?_
      obtain ⟨v13, hc12, h⟩ := d_b h
      refine dri (va_runV (As := []) (rest := []) S (kX12_thrown l g hc12) (cwV 0 S.2.2.2.2 gL_law_X12_thrown rfl rfl rfl ynX12_thrown ⟨Nat.le_of_ble_eq_true rfl, Nat.le_of_ble_eq_true rfl⟩) (dpV hE hP hS (ci := 12) rfl (dat13 dk_444)) rfl rfl hl.1 rfl (lv_room (Nat.le_of_ble_eq_true rfl)) dL_law_318 ⟨by omega, by omega⟩) hS (fun H locs hP hS => ?_)
      refine lv_iload S.1 S.2.1 dL_law_321 (lv_at hl 1 rfl) ?_
      refine lv_icmp_eq (tgt := 328) S.1 S.2.1 dL_law_323 (by decide) (fun cq => ?_) (fun cq => ?_)
      · have h := d_t cq h
        refine lv_iload S.1 S.2.1 dL_law_328 (lv_at hl 1 rfl) ?_
        refine lv_if_ne (tgt := 352) S.1 S.2.1 dL_law_330 (by decide) (fun cq => ?_) (fun cq => ?_)
        · have h := d_f cq h
          refine lv_goto (tgt := 1873) S.1 S.2.1 dL_law_352 (by decide) ?_
          obtain rfl := Option.some.inj h
          exact kk H locs ls _ _ (by omega) (by omega) hP hS (lv_sub hl [2, 3, 4, 5, 6] rfl)
        · have h := d_t cq h
          refine lv_aload_n S.1 S.2.1 dL_law_333 rfl (lv_at hl 6 rfl) ?_
          refine lv_iconst (v := 0) S.1 S.2.1 dL_law_334 (by decide) ?_
          obtain ⟨hi, h⟩ := d_g h
          refine d_lald S hE hP dk_463 hi dL_law_335 ?_
          refine lv_iload S.1 S.2.1 dL_law_336 (lv_at hl 0 rfl) ?_
          refine lv_if_eq (tgt := 345) S.1 S.2.1 dL_law_338 (by decide) (fun cq => ?_) (fun cq => ?_)
          · have h := d_t cq h
            refine lv_lconst (v := 0) S.1 S.2.1 dL_law_345 (by decide) ?_
            refine W.lcmp S.1 S.2.1 dL_law_346 ?_
            refine lv_if_eq (tgt := 352) S.1 S.2.1 dL_law_347 (by decide) (fun cq => ?_) (fun cq => ?_)
            · have h := d_t cq h
              refine lv_goto (tgt := 1873) S.1 S.2.1 dL_law_352 (by decide) ?_
              obtain rfl := Option.some.inj h
              exact kk H locs ls _ _ (by omega) (by omega) hP hS (lv_sub hl [2, 3, 4, 5, 6] rfl)
            · have h := d_f cq h
              cases h
          · have h := d_f cq h
            refine lv_lconst (v := 1) S.1 S.2.1 dL_law_341 (by decide) ?_
            refine lv_goto (tgt := 346) S.1 S.2.1 dL_law_342 (by decide) ?_
            refine W.lcmp S.1 S.2.1 dL_law_346 ?_
            refine lv_if_eq (tgt := 352) S.1 S.2.1 dL_law_347 (by decide) (fun cq => ?_) (fun cq => ?_)
            · have h := d_t cq h
              refine lv_goto (tgt := 1873) S.1 S.2.1 dL_law_352 (by decide) ?_
              obtain rfl := Option.some.inj h
              exact kk H locs ls _ _ (by omega) (by omega) hP hS (lv_sub hl [2, 3, 4, 5, 6] rfl)
            · have h := d_f cq h
              cases h
      · have h := d_f cq h
        cases h
  · have h := d_f cq h
    refine lv_iconst (v := 1) S.1 S.2.1 dL_law_280 (by decide) ?_
    refine lv_goto (tgt := 285) S.1 S.2.1 dL_law_281 (by decide) ?_
    refine lv_aload_n S.1 S.2.1 dL_law_285 rfl (lv_at hl 4 rfl) ?_
    obtain ⟨⟨v16, m15⟩, hc14, h⟩ := d_b h
    have h := d_p2 h
    refine dLri (vx_runSX (As := [.ref (dad g 0), .int (xs (Int32.toNatClampNeg (i + 1))), .int 1, .ref (dad g 463)]) (rest := []) S (kL_ill l g hst hc14) (vx_cwSW 4 S.2.2.2.2 gL_law_L_ill rfl rfl rfl ynL_ill ⟨(Nat.le_of_ble_eq_true rfl), (Nat.le_of_ble_eq_true rfl)⟩) (dpS hE hP hS) rfl rfl hl.1 rfl (lv_room (Nat.le_of_ble_eq_true rfl)) dL_law_286 ⟨by omega, by omega⟩) hS (fun H locs hP hS => ?_)
    refine lv_istore (lv' := [(5, .int v16), (4, .int i), (0, .ref b), (1, .ref (dad g 0)), (2, .ref (dad g 444)), (3, .ref (dad g 463))]) S.1 S.2.1 dL_law_289 hl (by decide) rfl (fun ls hl => ?_)
    refine lv_aload_n S.1 S.2.1 dL_law_291 rfl (lv_at hl 4 rfl) ?_
    refine lv_aload_n S.1 S.2.1 dL_law_292 rfl (lv_at hl 2 rfl) ?_
    refine lv_iload S.1 S.2.1 dL_law_293 (lv_at hl 1 rfl) ?_
    refine lv_iconst (v := 1) S.1 S.2.1 dL_law_295 (by decide) ?_
    refine lv_iadd S.1 S.2.1 dL_law_296 ?_
    obtain ⟨hi, h⟩ := d_g h
    refine va_sld S.1 S.2.1 hX hbl hbA hS (dIx_in hi) dL_law_297 ?_
    refine lv_aload_n S.1 S.2.1 dL_law_298 rfl (lv_at hl 2 rfl) ?_
    refine lv_iload S.1 S.2.1 dL_law_299 (lv_at hl 1 rfl) ?_
    refine lv_iconst (v := 2) S.1 S.2.1 dL_law_301 (by decide) ?_
    refine lv_iadd S.1 S.2.1 dL_law_302 ?_
    obtain ⟨hi, h⟩ := d_g h
    refine va_sld S.1 S.2.1 hX hbl hbA hS (dIx_in hi) dL_law_303 ?_
    refine lv_if_eq (tgt := 311) S.1 S.2.1 dL_law_304 (by decide) (fun cq => ?_) (fun cq => ?_)
    · have h := d_t cq h
      refine lv_iconst (v := 0) S.1 S.2.1 dL_law_311 (by decide) ?_
      obtain ⟨⟨v19, m18⟩, hc17, h⟩ := d_b h
      have h := d_p2 h
      refine dri (va_runV (As := [.int (xs (Int32.toNatClampNeg (i + 1))), .int 0]) (rest := []) S (kX12_ill l g hc17) (cwV 2 S.2.2.2.2 gL_law_X12_ill rfl rfl rfl ynX12_ill ⟨Nat.le_of_ble_eq_true rfl, Nat.le_of_ble_eq_true rfl⟩) (dpV hE hP hS (ci := 12) rfl (dat13 dk_444)) rfl rfl hl.1 rfl (lv_room (Nat.le_of_ble_eq_true rfl)) dL_law_312 ⟨by omega, by omega⟩) hS (fun H locs hP hS => ?_)
      refine lv_istore (lv' := [(6, .int v19), (5, .int v16), (4, .int i), (0, .ref b), (1, .ref (dad g 0)), (2, .ref (dad g 444)), (3, .ref (dad g 463))]) S.1 S.2.1 dL_law_315 hl (by decide) rfl (fun ls hl => ?_)
      refine lv_aload_n S.1 S.2.1 dL_law_317 rfl (lv_at hl 5 rfl) ?_
      obtain ⟨v21, hc20, h⟩ := d_b h
      refine dri (va_runV (As := []) (rest := []) S (kX12_thrown l g hc20) (cwV 0 S.2.2.2.2 gL_law_X12_thrown rfl rfl rfl ynX12_thrown ⟨Nat.le_of_ble_eq_true rfl, Nat.le_of_ble_eq_true rfl⟩) (dpV hE hP hS (ci := 12) rfl (dat13 dk_444)) rfl rfl hl.1 rfl (lv_room (Nat.le_of_ble_eq_true rfl)) dL_law_318 ⟨by omega, by omega⟩) hS (fun H locs hP hS => ?_)
      refine lv_iload S.1 S.2.1 dL_law_321 (lv_at hl 1 rfl) ?_
      refine lv_icmp_eq (tgt := 328) S.1 S.2.1 dL_law_323 (by decide) (fun cq => ?_) (fun cq => ?_)
      · have h := d_t cq h
        refine lv_iload S.1 S.2.1 dL_law_328 (lv_at hl 1 rfl) ?_
        refine lv_if_ne (tgt := 352) S.1 S.2.1 dL_law_330 (by decide) (fun cq => ?_) (fun cq => ?_)
        · have h := d_f cq h
          refine lv_goto (tgt := 1873) S.1 S.2.1 dL_law_352 (by decide) ?_
          obtain rfl := Option.some.inj h
          exact kk H locs ls _ _ (by omega) (by omega) hP hS (lv_sub hl [2, 3, 4, 5, 6] rfl)
        · have h := d_t cq h
          refine lv_aload_n S.1 S.2.1 dL_law_333 rfl (lv_at hl 6 rfl) ?_
          refine lv_iconst (v := 0) S.1 S.2.1 dL_law_334 (by decide) ?_
          obtain ⟨hi, h⟩ := d_g h
          refine d_lald S hE hP dk_463 hi dL_law_335 ?_
          refine lv_iload S.1 S.2.1 dL_law_336 (lv_at hl 0 rfl) ?_
          refine lv_if_eq (tgt := 345) S.1 S.2.1 dL_law_338 (by decide) (fun cq => ?_) (fun cq => ?_)
          · have h := d_t cq h
            refine lv_lconst (v := 0) S.1 S.2.1 dL_law_345 (by decide) ?_
            refine W.lcmp S.1 S.2.1 dL_law_346 ?_
            refine lv_if_eq (tgt := 352) S.1 S.2.1 dL_law_347 (by decide) (fun cq => ?_) (fun cq => ?_)
            · have h := d_t cq h
              refine lv_goto (tgt := 1873) S.1 S.2.1 dL_law_352 (by decide) ?_
              obtain rfl := Option.some.inj h
              exact kk H locs ls _ _ (by omega) (by omega) hP hS (lv_sub hl [2, 3, 4, 5, 6] rfl)
            · have h := d_f cq h
              cases h
          · have h := d_f cq h
            refine lv_lconst (v := 1) S.1 S.2.1 dL_law_341 (by decide) ?_
            refine lv_goto (tgt := 346) S.1 S.2.1 dL_law_342 (by decide) ?_
            refine W.lcmp S.1 S.2.1 dL_law_346 ?_
            refine lv_if_eq (tgt := 352) S.1 S.2.1 dL_law_347 (by decide) (fun cq => ?_) (fun cq => ?_)
            · have h := d_t cq h
              refine lv_goto (tgt := 1873) S.1 S.2.1 dL_law_352 (by decide) ?_
              obtain rfl := Option.some.inj h
              exact kk H locs ls _ _ (by omega) (by omega) hP hS (lv_sub hl [2, 3, 4, 5, 6] rfl)
            · have h := d_f cq h
              cases h
      · have h := d_f cq h
        cases h
    · have h := d_f cq h
      refine lv_iconst (v := 1) S.1 S.2.1 dL_law_307 (by decide) ?_
      refine lv_goto (tgt := 312) S.1 S.2.1 dL_law_308 (by decide) ?_
      obtain ⟨⟨v24, m23⟩, hc22, h⟩ := d_b h
      have h := d_p2 h
      refine dri (va_runV (As := [.int (xs (Int32.toNatClampNeg (i + 1))), .int 1]) (rest := []) S (kX12_ill l g hc22) (cwV 2 S.2.2.2.2 gL_law_X12_ill rfl rfl rfl ynX12_ill ⟨Nat.le_of_ble_eq_true rfl, Nat.le_of_ble_eq_true rfl⟩) (dpV hE hP hS (ci := 12) rfl (dat13 dk_444)) rfl rfl hl.1 rfl (lv_room (Nat.le_of_ble_eq_true rfl)) dL_law_312 ⟨by omega, by omega⟩) hS (fun H locs hP hS => ?_)
      refine lv_istore (lv' := [(6, .int v24), (5, .int v16), (4, .int i), (0, .ref b), (1, .ref (dad g 0)), (2, .ref (dad g 444)), (3, .ref (dad g 463))]) S.1 S.2.1 dL_law_315 hl (by decide) rfl (fun ls hl => ?_)
      refine lv_aload_n S.1 S.2.1 dL_law_317 rfl (lv_at hl 5 rfl) ?_
      obtain ⟨v26, hc25, h⟩ := d_b h
      refine dri (va_runV (As := []) (rest := []) S (kX12_thrown l g hc25) (cwV 0 S.2.2.2.2 gL_law_X12_thrown rfl rfl rfl ynX12_thrown ⟨Nat.le_of_ble_eq_true rfl, Nat.le_of_ble_eq_true rfl⟩) (dpV hE hP hS (ci := 12) rfl (dat13 dk_444)) rfl rfl hl.1 rfl (lv_room (Nat.le_of_ble_eq_true rfl)) dL_law_318 ⟨by omega, by omega⟩) hS (fun H locs hP hS => ?_)
      refine lv_iload S.1 S.2.1 dL_law_321 (lv_at hl 1 rfl) ?_
      refine lv_icmp_eq (tgt := 328) S.1 S.2.1 dL_law_323 (by decide) (fun cq => ?_) (fun cq => ?_)
      · have h := d_t cq h
        refine lv_iload S.1 S.2.1 dL_law_328 (lv_at hl 1 rfl) ?_
        refine lv_if_ne (tgt := 352) S.1 S.2.1 dL_law_330 (by decide) (fun cq => ?_) (fun cq => ?_)
        · have h := d_f cq h
          refine lv_goto (tgt := 1873) S.1 S.2.1 dL_law_352 (by decide) ?_
          obtain rfl := Option.some.inj h
          exact kk H locs ls _ _ (by omega) (by omega) hP hS (lv_sub hl [2, 3, 4, 5, 6] rfl)
        · have h := d_t cq h
          refine lv_aload_n S.1 S.2.1 dL_law_333 rfl (lv_at hl 6 rfl) ?_
          refine lv_iconst (v := 0) S.1 S.2.1 dL_law_334 (by decide) ?_
          obtain ⟨hi, h⟩ := d_g h
          refine d_lald S hE hP dk_463 hi dL_law_335 ?_
          refine lv_iload S.1 S.2.1 dL_law_336 (lv_at hl 0 rfl) ?_
          refine lv_if_eq (tgt := 345) S.1 S.2.1 dL_law_338 (by decide) (fun cq => ?_) (fun cq => ?_)
          · have h := d_t cq h
            refine lv_lconst (v := 0) S.1 S.2.1 dL_law_345 (by decide) ?_
            refine W.lcmp S.1 S.2.1 dL_law_346 ?_
            refine lv_if_eq (tgt := 352) S.1 S.2.1 dL_law_347 (by decide) (fun cq => ?_) (fun cq => ?_)
            · have h := d_t cq h
              refine lv_goto (tgt := 1873) S.1 S.2.1 dL_law_352 (by decide) ?_
              obtain rfl := Option.some.inj h
              exact kk H locs ls _ _ (by omega) (by omega) hP hS (lv_sub hl [2, 3, 4, 5, 6] rfl)
            · have h := d_f cq h
              cases h
          · have h := d_f cq h
            refine lv_lconst (v := 1) S.1 S.2.1 dL_law_341 (by decide) ?_
            refine lv_goto (tgt := 346) S.1 S.2.1 dL_law_342 (by decide) ?_
            refine W.lcmp S.1 S.2.1 dL_law_346 ?_
            refine lv_if_eq (tgt := 352) S.1 S.2.1 dL_law_347 (by decide) (fun cq => ?_) (fun cq => ?_)
            · have h := d_t cq h
              refine lv_goto (tgt := 1873) S.1 S.2.1 dL_law_352 (by decide) ?_
              obtain rfl := Option.some.inj h
              exact kk H locs ls _ _ (by omega) (by omega) hP hS (lv_sub hl [2, 3, 4, 5, 6] rfl)
            · have h := d_f cq h
              cases h
      · have h := d_f cq h
        cases h
theorem dL_law_355 : decode cL_law 355 = .ok (.aload_n 1, 1) := by decide +kernel
theorem dL_law_356 : decode cL_law 356 = .ok (.aload_n 0, 1) := by decide +kernel
theorem dL_law_357 : decode cL_law 357 = .ok (.iload 4, 2) := by decide +kernel
theorem dL_law_359 : decode cL_law 359 = .ok (.iconst 1, 1) := by decide +kernel
theorem dL_law_360 : decode cL_law 360 = .ok (.iadd, 1) := by decide +kernel
theorem dL_law_361 : decode cL_law 361 = .ok (.iaload, 1) := by decide +kernel
theorem dL_law_362 : decode cL_law 362 = .ok (.aload_n 0, 1) := by decide +kernel
theorem dL_law_363 : decode cL_law 363 = .ok (.iload 4, 2) := by decide +kernel
theorem dL_law_365 : decode cL_law 365 = .ok (.iconst 2, 1) := by decide +kernel
theorem dL_law_366 : decode cL_law 366 = .ok (.iadd, 1) := by decide +kernel
theorem dL_law_367 : decode cL_law 367 = .ok (.iaload, 1) := by decide +kernel
theorem dL_law_368 : decode cL_law 368 = .ok (.aload_n 0, 1) := by decide +kernel
theorem dL_law_369 : decode cL_law 369 = .ok (.iload 4, 2) := by decide +kernel
theorem dL_law_371 : decode cL_law 371 = .ok (.iconst 3, 1) := by decide +kernel
theorem dL_law_372 : decode cL_law 372 = .ok (.iadd, 1) := by decide +kernel
theorem dL_law_373 : decode cL_law 373 = .ok (.iaload, 1) := by decide +kernel
theorem dL_law_374 : decode cL_law 374 = .ok (.ifCond .eq 7, 3) := by decide +kernel
theorem dL_law_377 : decode cL_law 377 = .ok (.iconst 1, 1) := by decide +kernel
theorem dL_law_378 : decode cL_law 378 = .ok (.goto 4, 3) := by decide +kernel
theorem dL_law_381 : decode cL_law 381 = .ok (.iconst 0, 1) := by decide +kernel
theorem dL_law_382 : decode cL_law 382 = .ok (.invokestatic 115, 3) := by decide +kernel
theorem dL_law_385 : decode cL_law 385 = .ok (.istore 5, 2) := by decide +kernel
theorem dL_law_387 : decode cL_law 387 = .ok (.aload_n 2, 1) := by decide +kernel
theorem dL_law_388 : decode cL_law 388 = .ok (.aload_n 0, 1) := by decide +kernel
theorem dL_law_389 : decode cL_law 389 = .ok (.iload 4, 2) := by decide +kernel
theorem dL_law_391 : decode cL_law 391 = .ok (.iconst 1, 1) := by decide +kernel
theorem dL_law_392 : decode cL_law 392 = .ok (.iadd, 1) := by decide +kernel
theorem dL_law_393 : decode cL_law 393 = .ok (.iaload, 1) := by decide +kernel
theorem dL_law_394 : decode cL_law 394 = .ok (.aload_n 0, 1) := by decide +kernel
theorem dL_law_395 : decode cL_law 395 = .ok (.iload 4, 2) := by decide +kernel
theorem dL_law_397 : decode cL_law 397 = .ok (.iconst 2, 1) := by decide +kernel
theorem dL_law_398 : decode cL_law 398 = .ok (.iadd, 1) := by decide +kernel
theorem dL_law_399 : decode cL_law 399 = .ok (.iaload, 1) := by decide +kernel
theorem dL_law_400 : decode cL_law 400 = .ok (.aload_n 0, 1) := by decide +kernel
theorem dL_law_401 : decode cL_law 401 = .ok (.iload 4, 2) := by decide +kernel
theorem dL_law_403 : decode cL_law 403 = .ok (.iconst 3, 1) := by decide +kernel
theorem dL_law_404 : decode cL_law 404 = .ok (.iadd, 1) := by decide +kernel
theorem dL_law_405 : decode cL_law 405 = .ok (.iaload, 1) := by decide +kernel
theorem dL_law_406 : decode cL_law 406 = .ok (.ifCond .eq 7, 3) := by decide +kernel
theorem dL_law_409 : decode cL_law 409 = .ok (.iconst 1, 1) := by decide +kernel
theorem dL_law_410 : decode cL_law 410 = .ok (.goto 4, 3) := by decide +kernel
theorem dL_law_413 : decode cL_law 413 = .ok (.iconst 0, 1) := by decide +kernel
theorem dL_law_414 : decode cL_law 414 = .ok (.invokevirtual 118, 3) := by decide +kernel
theorem dL_law_417 : decode cL_law 417 = .ok (.aload_n 2, 1) := by decide +kernel
theorem dL_law_418 : decode cL_law 418 = .ok (.invokevirtual 104, 3) := by decide +kernel
theorem dL_law_421 : decode cL_law 421 = .ok (.iload 5, 2) := by decide +kernel
theorem dL_law_423 : decode cL_law 423 = .ok (.if_icmp .eq 5, 3) := by decide +kernel
theorem dL_law_426 : decode cL_law 426 = .ok (.iconst 0, 1) := by decide +kernel
theorem dL_law_427 : decode cL_law 427 = .ok (.ireturn, 1) := by decide +kernel
theorem dL_law_428 : decode cL_law 428 = .ok (.goto 1445, 3) := by decide +kernel
def fLaw_3 (xs : Nat → Int32) (nL : Nat) (i : Int32) (m : dM) : Option dM := dg (dIx (i + 1) nL) (dg (dIx (i + 2) nL) (dg (dIx (i + 3) nL) (if (xs (Int32.toNatClampNeg (i + 3))) = 0 then (fL_alternate m 0 (xs (Int32.toNatClampNeg (i + 1))) (xs (Int32.toNatClampNeg (i + 2))) 0).bind (fun q => dP2 q (fun v3 m2 => dg (dIx (i + 1) nL) (dg (dIx (i + 2) nL) (dg (dIx (i + 3) nL) (if (xs (Int32.toNatClampNeg (i + 3))) = 0 then (fX12_alternate m2 444 (xs (Int32.toNatClampNeg (i + 1))) (xs (Int32.toNatClampNeg (i + 2))) 0).bind (fun m5 => (fX12_thrown m5 444).bind (fun v7 => if v7 = v3 then some m5 else none)) else (fX12_alternate m2 444 (xs (Int32.toNatClampNeg (i + 1))) (xs (Int32.toNatClampNeg (i + 2))) 1).bind (fun m9 => (fX12_thrown m9 444).bind (fun v11 => if v11 = v3 then some m9 else none))))))) else (fL_alternate m 0 (xs (Int32.toNatClampNeg (i + 1))) (xs (Int32.toNatClampNeg (i + 2))) 1).bind (fun q => dP2 q (fun v14 m13 => dg (dIx (i + 1) nL) (dg (dIx (i + 2) nL) (dg (dIx (i + 3) nL) (if (xs (Int32.toNatClampNeg (i + 3))) = 0 then (fX12_alternate m13 444 (xs (Int32.toNatClampNeg (i + 1))) (xs (Int32.toNatClampNeg (i + 2))) 0).bind (fun m16 => (fX12_thrown m16 444).bind (fun v18 => if v18 = v14 then some m16 else none)) else (fX12_alternate m13 444 (xs (Int32.toNatClampNeg (i + 1))) (xs (Int32.toNatClampNeg (i + 2))) 1).bind (fun m20 => (fX12_thrown m20 444).bind (fun v22 => if v22 = v14 then some m20 else none))))))))))
set_option maxHeartbeats 4000000 in
set_option maxRecDepth 100000 in
theorem kLaw_3 {p : Program} {l : Launch} {e : Env} {s : State} {mth : MethodId} {below : List Frame} {meth : Method} {c : Code} {b nL : Nat} {xs : Nat → Int32} {g : dG} {Q : State → Prop} {H : Heap} {locs : List Loc} {cells slots : Nat} {ls : Array Slot} {i : Int32} {m m9 : dM} (hst : l.stackTraces = false) (S : CallFix p mth c cL_law 8 s #[Value.ref b] wsL_law RL) (hX : va_X b nL xs s s.heap) (hbl : b < s.heap.size) (hbA : ¬ dA g b) (hE : dEnv g s) (hR : cells + 6 ≤ room_1.cells ∧ slots + 36 ≤ room_1.slots) (h : fLaw_3 xs nL i m = some m9) (hP : va_P g.1 vwCl (dws g m) H) (hS : va_S (dA g) s.heap H locs) (hl : lv_has ls 8 [(4, .int i), (0, .ref b), (1, .ref (dad g 0)), (2, .ref (dad g 444)), (3, .ref (dad g 463))])
    (kk : ∀ (H : Heap) (locs : List Loc) (ls : Array Slot) (cells2 slots2 : Nat), cells2 ≤ cells + 6 → slots2 ≤ slots + 36 → va_P g.1 vwCl (dws g m9) H → va_S (dA g) s.heap H locs → lv_has ls 8 [(4, .int i), (0, .ref b), (1, .ref (dad g 0)), (2, .ref (dad g 444)), (3, .ref (dad g 463))] → W p l e room_1 s mth #[Value.ref b] below meth c H locs cells2 slots2 Q (F0 mth 1873 ls [])) : W p l e room_1 s mth #[Value.ref b] below meth c H locs cells slots Q (F0 mth 355 ls []) := by
  obtain ⟨hR1, hR2⟩ := hR
  unfold fLaw_3 at h
  refine lv_aload_n S.1 S.2.1 dL_law_355 rfl (lv_at hl 2 rfl) ?_
  refine lv_aload_n S.1 S.2.1 dL_law_356 rfl (lv_at hl 1 rfl) ?_
  refine lv_iload S.1 S.2.1 dL_law_357 (lv_at hl 0 rfl) ?_
  refine lv_iconst (v := 1) S.1 S.2.1 dL_law_359 (by decide) ?_
  refine lv_iadd S.1 S.2.1 dL_law_360 ?_
  obtain ⟨hi, h⟩ := d_g h
  refine va_sld S.1 S.2.1 hX hbl hbA hS (dIx_in hi) dL_law_361 ?_
  refine lv_aload_n S.1 S.2.1 dL_law_362 rfl (lv_at hl 1 rfl) ?_
  refine lv_iload S.1 S.2.1 dL_law_363 (lv_at hl 0 rfl) ?_
  refine lv_iconst (v := 2) S.1 S.2.1 dL_law_365 (by decide) ?_
  refine lv_iadd S.1 S.2.1 dL_law_366 ?_
  obtain ⟨hi, h⟩ := d_g h
  refine va_sld S.1 S.2.1 hX hbl hbA hS (dIx_in hi) dL_law_367 ?_
  refine lv_aload_n S.1 S.2.1 dL_law_368 rfl (lv_at hl 1 rfl) ?_
  refine lv_iload S.1 S.2.1 dL_law_369 (lv_at hl 0 rfl) ?_
  refine lv_iconst (v := 3) S.1 S.2.1 dL_law_371 (by decide) ?_
  refine lv_iadd S.1 S.2.1 dL_law_372 ?_
  obtain ⟨hi, h⟩ := d_g h
  refine va_sld S.1 S.2.1 hX hbl hbA hS (dIx_in hi) dL_law_373 ?_
  refine lv_if_eq (tgt := 381) S.1 S.2.1 dL_law_374 (by decide) (fun cq => ?_) (fun cq => ?_)
  · have h := d_t cq h
    refine lv_iconst (v := 0) S.1 S.2.1 dL_law_381 (by decide) ?_
    obtain ⟨⟨v3, m2⟩, hc1, h⟩ := d_b h
    have h := d_p2 h
    refine dLri (vx_runSX (As := [.ref (dad g 0), .int (xs (Int32.toNatClampNeg (i + 1))), .int (xs (Int32.toNatClampNeg (i + 2))), .int 0]) (rest := []) S (kL_alternate l g hst hc1) (vx_cwSW 4 S.2.2.2.2 gL_law_L_alternate rfl rfl rfl ynL_alternate ⟨(Nat.le_of_ble_eq_true rfl), (Nat.le_of_ble_eq_true rfl)⟩) (dpS hE hP hS) rfl rfl hl.1 rfl (lv_room (Nat.le_of_ble_eq_true rfl)) dL_law_382 ⟨by omega, by omega⟩) hS (fun H locs hP hS => ?_)
    refine lv_istore (lv' := [(5, .int v3), (4, .int i), (0, .ref b), (1, .ref (dad g 0)), (2, .ref (dad g 444)), (3, .ref (dad g 463))]) S.1 S.2.1 dL_law_385 hl (by decide) rfl (fun ls hl => ?_)
    refine lv_aload_n S.1 S.2.1 dL_law_387 rfl (lv_at hl 4 rfl) ?_
    refine lv_aload_n S.1 S.2.1 dL_law_388 rfl (lv_at hl 2 rfl) ?_
    refine lv_iload S.1 S.2.1 dL_law_389 (lv_at hl 1 rfl) ?_
    refine lv_iconst (v := 1) S.1 S.2.1 dL_law_391 (by decide) ?_
    refine lv_iadd S.1 S.2.1 dL_law_392 ?_
    obtain ⟨hi, h⟩ := d_g h
    refine va_sld S.1 S.2.1 hX hbl hbA hS (dIx_in hi) dL_law_393 ?_
    refine lv_aload_n S.1 S.2.1 dL_law_394 rfl (lv_at hl 2 rfl) ?_
    refine lv_iload S.1 S.2.1 dL_law_395 (lv_at hl 1 rfl) ?_
    refine lv_iconst (v := 2) S.1 S.2.1 dL_law_397 (by decide) ?_
    refine lv_iadd S.1 S.2.1 dL_law_398 ?_
    obtain ⟨hi, h⟩ := d_g h
    refine va_sld S.1 S.2.1 hX hbl hbA hS (dIx_in hi) dL_law_399 ?_
    refine lv_aload_n S.1 S.2.1 dL_law_400 rfl (lv_at hl 2 rfl) ?_
    refine lv_iload S.1 S.2.1 dL_law_401 (lv_at hl 1 rfl) ?_
    refine lv_iconst (v := 3) S.1 S.2.1 dL_law_403 (by decide) ?_
    refine lv_iadd S.1 S.2.1 dL_law_404 ?_
    obtain ⟨hi, h⟩ := d_g h
    refine va_sld S.1 S.2.1 hX hbl hbA hS (dIx_in hi) dL_law_405 ?_
    refine lv_if_eq (tgt := 413) S.1 S.2.1 dL_law_406 (by decide) (fun cq => ?_) (fun cq => ?_)
    · have h := d_t cq h
      refine lv_iconst (v := 0) S.1 S.2.1 dL_law_413 (by decide) ?_
      obtain ⟨m5, hc4, h⟩ := d_b h
      refine drv (va_runV (As := [.int (xs (Int32.toNatClampNeg (i + 1))), .int (xs (Int32.toNatClampNeg (i + 2))), .int 0]) (rest := []) S (kX12_alternate l g hc4) (cwV 3 S.2.2.2.2 gL_law_X12_alternate rfl rfl rfl ynX12_alternate ⟨Nat.le_of_ble_eq_true rfl, Nat.le_of_ble_eq_true rfl⟩) (dpV hE hP hS (ci := 12) rfl (dat13 dk_444)) rfl rfl hl.1 rfl (lv_room (Nat.le_of_ble_eq_true rfl)) dL_law_414 ⟨by omega, by omega⟩) hS (fun H locs hP hS => ?_)
      refine lv_aload_n S.1 S.2.1 dL_law_417 rfl (lv_at hl 4 rfl) ?_
      obtain ⟨v7, hc6, h⟩ := d_b h
      refine dri (va_runV (As := []) (rest := []) S (kX12_thrown l g hc6) (cwV 0 S.2.2.2.2 gL_law_X12_thrown rfl rfl rfl ynX12_thrown ⟨Nat.le_of_ble_eq_true rfl, Nat.le_of_ble_eq_true rfl⟩) (dpV hE hP hS (ci := 12) rfl (dat13 dk_444)) rfl rfl hl.1 rfl (lv_room (Nat.le_of_ble_eq_true rfl)) dL_law_418 ⟨by omega, by omega⟩) hS (fun H locs hP hS => ?_)
      refine lv_iload S.1 S.2.1 dL_law_421 (lv_at hl 0 rfl) ?_
      refine lv_icmp_eq (tgt := 428) S.1 S.2.1 dL_law_423 (by decide) (fun cq => ?_) (fun cq => ?_)
      · have h := d_t cq h
        refine lv_goto (tgt := 1873) S.1 S.2.1 dL_law_428 (by decide) ?_
        obtain rfl := Option.some.inj h
        exact kk H locs ls _ _ (by omega) (by omega) hP hS (lv_sub hl [1, 2, 3, 4, 5] rfl)
      · have h := d_f cq h
        cases h
    · have h := d_f cq h
      refine lv_iconst (v := 1) S.1 S.2.1 dL_law_409 (by decide) ?_
      refine lv_goto (tgt := 414) S.1 S.2.1 dL_law_410 (by decide) ?_
      obtain ⟨m9, hc8, h⟩ := d_b h
      refine drv (va_runV (As := [.int (xs (Int32.toNatClampNeg (i + 1))), .int (xs (Int32.toNatClampNeg (i + 2))), .int 1]) (rest := []) S (kX12_alternate l g hc8) (cwV 3 S.2.2.2.2 gL_law_X12_alternate rfl rfl rfl ynX12_alternate ⟨Nat.le_of_ble_eq_true rfl, Nat.le_of_ble_eq_true rfl⟩) (dpV hE hP hS (ci := 12) rfl (dat13 dk_444)) rfl rfl hl.1 rfl (lv_room (Nat.le_of_ble_eq_true rfl)) dL_law_414 ⟨by omega, by omega⟩) hS (fun H locs hP hS => ?_)
      refine lv_aload_n S.1 S.2.1 dL_law_417 rfl (lv_at hl 4 rfl) ?_
      obtain ⟨v11, hc10, h⟩ := d_b h
      refine dri (va_runV (As := []) (rest := []) S (kX12_thrown l g hc10) (cwV 0 S.2.2.2.2 gL_law_X12_thrown rfl rfl rfl ynX12_thrown ⟨Nat.le_of_ble_eq_true rfl, Nat.le_of_ble_eq_true rfl⟩) (dpV hE hP hS (ci := 12) rfl (dat13 dk_444)) rfl rfl hl.1 rfl (lv_room (Nat.le_of_ble_eq_true rfl)) dL_law_418 ⟨by omega, by omega⟩) hS (fun H locs hP hS => ?_)
      refine lv_iload S.1 S.2.1 dL_law_421 (lv_at hl 0 rfl) ?_
      refine lv_icmp_eq (tgt := 428) S.1 S.2.1 dL_law_423 (by decide) (fun cq => ?_) (fun cq => ?_)
      · have h := d_t cq h
        refine lv_goto (tgt := 1873) S.1 S.2.1 dL_law_428 (by decide) ?_
        obtain rfl := Option.some.inj h
        exact kk H locs ls _ _ (by omega) (by omega) hP hS (lv_sub hl [1, 2, 3, 4, 5] rfl)
      · have h := d_f cq h
        cases h
  · have h := d_f cq h
    refine lv_iconst (v := 1) S.1 S.2.1 dL_law_377 (by decide) ?_
    refine lv_goto (tgt := 382) S.1 S.2.1 dL_law_378 (by decide) ?_
    obtain ⟨⟨v14, m13⟩, hc12, h⟩ := d_b h
    have h := d_p2 h
    refine dLri (vx_runSX (As := [.ref (dad g 0), .int (xs (Int32.toNatClampNeg (i + 1))), .int (xs (Int32.toNatClampNeg (i + 2))), .int 1]) (rest := []) S (kL_alternate l g hst hc12) (vx_cwSW 4 S.2.2.2.2 gL_law_L_alternate rfl rfl rfl ynL_alternate ⟨(Nat.le_of_ble_eq_true rfl), (Nat.le_of_ble_eq_true rfl)⟩) (dpS hE hP hS) rfl rfl hl.1 rfl (lv_room (Nat.le_of_ble_eq_true rfl)) dL_law_382 ⟨by omega, by omega⟩) hS (fun H locs hP hS => ?_)
    refine lv_istore (lv' := [(5, .int v14), (4, .int i), (0, .ref b), (1, .ref (dad g 0)), (2, .ref (dad g 444)), (3, .ref (dad g 463))]) S.1 S.2.1 dL_law_385 hl (by decide) rfl (fun ls hl => ?_)
    refine lv_aload_n S.1 S.2.1 dL_law_387 rfl (lv_at hl 4 rfl) ?_
    refine lv_aload_n S.1 S.2.1 dL_law_388 rfl (lv_at hl 2 rfl) ?_
    refine lv_iload S.1 S.2.1 dL_law_389 (lv_at hl 1 rfl) ?_
    refine lv_iconst (v := 1) S.1 S.2.1 dL_law_391 (by decide) ?_
    refine lv_iadd S.1 S.2.1 dL_law_392 ?_
    obtain ⟨hi, h⟩ := d_g h
    refine va_sld S.1 S.2.1 hX hbl hbA hS (dIx_in hi) dL_law_393 ?_
    refine lv_aload_n S.1 S.2.1 dL_law_394 rfl (lv_at hl 2 rfl) ?_
    refine lv_iload S.1 S.2.1 dL_law_395 (lv_at hl 1 rfl) ?_
    refine lv_iconst (v := 2) S.1 S.2.1 dL_law_397 (by decide) ?_
    refine lv_iadd S.1 S.2.1 dL_law_398 ?_
    obtain ⟨hi, h⟩ := d_g h
    refine va_sld S.1 S.2.1 hX hbl hbA hS (dIx_in hi) dL_law_399 ?_
    refine lv_aload_n S.1 S.2.1 dL_law_400 rfl (lv_at hl 2 rfl) ?_
    refine lv_iload S.1 S.2.1 dL_law_401 (lv_at hl 1 rfl) ?_
    refine lv_iconst (v := 3) S.1 S.2.1 dL_law_403 (by decide) ?_
    refine lv_iadd S.1 S.2.1 dL_law_404 ?_
    obtain ⟨hi, h⟩ := d_g h
    refine va_sld S.1 S.2.1 hX hbl hbA hS (dIx_in hi) dL_law_405 ?_
    refine lv_if_eq (tgt := 413) S.1 S.2.1 dL_law_406 (by decide) (fun cq => ?_) (fun cq => ?_)
    · have h := d_t cq h
      refine lv_iconst (v := 0) S.1 S.2.1 dL_law_413 (by decide) ?_
      obtain ⟨m16, hc15, h⟩ := d_b h
      refine drv (va_runV (As := [.int (xs (Int32.toNatClampNeg (i + 1))), .int (xs (Int32.toNatClampNeg (i + 2))), .int 0]) (rest := []) S (kX12_alternate l g hc15) (cwV 3 S.2.2.2.2 gL_law_X12_alternate rfl rfl rfl ynX12_alternate ⟨Nat.le_of_ble_eq_true rfl, Nat.le_of_ble_eq_true rfl⟩) (dpV hE hP hS (ci := 12) rfl (dat13 dk_444)) rfl rfl hl.1 rfl (lv_room (Nat.le_of_ble_eq_true rfl)) dL_law_414 ⟨by omega, by omega⟩) hS (fun H locs hP hS => ?_)
      refine lv_aload_n S.1 S.2.1 dL_law_417 rfl (lv_at hl 4 rfl) ?_
      obtain ⟨v18, hc17, h⟩ := d_b h
      refine dri (va_runV (As := []) (rest := []) S (kX12_thrown l g hc17) (cwV 0 S.2.2.2.2 gL_law_X12_thrown rfl rfl rfl ynX12_thrown ⟨Nat.le_of_ble_eq_true rfl, Nat.le_of_ble_eq_true rfl⟩) (dpV hE hP hS (ci := 12) rfl (dat13 dk_444)) rfl rfl hl.1 rfl (lv_room (Nat.le_of_ble_eq_true rfl)) dL_law_418 ⟨by omega, by omega⟩) hS (fun H locs hP hS => ?_)
      refine lv_iload S.1 S.2.1 dL_law_421 (lv_at hl 0 rfl) ?_
      refine lv_icmp_eq (tgt := 428) S.1 S.2.1 dL_law_423 (by decide) (fun cq => ?_) (fun cq => ?_)
      · have h := d_t cq h
        refine lv_goto (tgt := 1873) S.1 S.2.1 dL_law_428 (by decide) ?_
        obtain rfl := Option.some.inj h
        exact kk H locs ls _ _ (by omega) (by omega) hP hS (lv_sub hl [1, 2, 3, 4, 5] rfl)
      · have h := d_f cq h
        cases h
    · have h := d_f cq h
      refine lv_iconst (v := 1) S.1 S.2.1 dL_law_409 (by decide) ?_
      refine lv_goto (tgt := 414) S.1 S.2.1 dL_law_410 (by decide) ?_
      obtain ⟨m20, hc19, h⟩ := d_b h
      refine drv (va_runV (As := [.int (xs (Int32.toNatClampNeg (i + 1))), .int (xs (Int32.toNatClampNeg (i + 2))), .int 1]) (rest := []) S (kX12_alternate l g hc19) (cwV 3 S.2.2.2.2 gL_law_X12_alternate rfl rfl rfl ynX12_alternate ⟨Nat.le_of_ble_eq_true rfl, Nat.le_of_ble_eq_true rfl⟩) (dpV hE hP hS (ci := 12) rfl (dat13 dk_444)) rfl rfl hl.1 rfl (lv_room (Nat.le_of_ble_eq_true rfl)) dL_law_414 ⟨by omega, by omega⟩) hS (fun H locs hP hS => ?_)
      refine lv_aload_n S.1 S.2.1 dL_law_417 rfl (lv_at hl 4 rfl) ?_
      obtain ⟨v22, hc21, h⟩ := d_b h
      refine dri (va_runV (As := []) (rest := []) S (kX12_thrown l g hc21) (cwV 0 S.2.2.2.2 gL_law_X12_thrown rfl rfl rfl ynX12_thrown ⟨Nat.le_of_ble_eq_true rfl, Nat.le_of_ble_eq_true rfl⟩) (dpV hE hP hS (ci := 12) rfl (dat13 dk_444)) rfl rfl hl.1 rfl (lv_room (Nat.le_of_ble_eq_true rfl)) dL_law_418 ⟨by omega, by omega⟩) hS (fun H locs hP hS => ?_)
      refine lv_iload S.1 S.2.1 dL_law_421 (lv_at hl 0 rfl) ?_
      refine lv_icmp_eq (tgt := 428) S.1 S.2.1 dL_law_423 (by decide) (fun cq => ?_) (fun cq => ?_)
      · have h := d_t cq h
        refine lv_goto (tgt := 1873) S.1 S.2.1 dL_law_428 (by decide) ?_
        obtain rfl := Option.some.inj h
        exact kk H locs ls _ _ (by omega) (by omega) hP hS (lv_sub hl [1, 2, 3, 4, 5] rfl)
      · have h := d_f cq h
        cases h
theorem dL_law_431 : decode cL_law 431 = .ok (.aload_n 1, 1) := by decide +kernel
theorem dL_law_432 : decode cL_law 432 = .ok (.aload_n 0, 1) := by decide +kernel
theorem dL_law_433 : decode cL_law 433 = .ok (.iload 4, 2) := by decide +kernel
theorem dL_law_435 : decode cL_law 435 = .ok (.iconst 1, 1) := by decide +kernel
theorem dL_law_436 : decode cL_law 436 = .ok (.iadd, 1) := by decide +kernel
theorem dL_law_437 : decode cL_law 437 = .ok (.iaload, 1) := by decide +kernel
theorem dL_law_438 : decode cL_law 438 = .ok (.aload_n 0, 1) := by decide +kernel
theorem dL_law_439 : decode cL_law 439 = .ok (.iload 4, 2) := by decide +kernel
theorem dL_law_441 : decode cL_law 441 = .ok (.iconst 2, 1) := by decide +kernel
theorem dL_law_442 : decode cL_law 442 = .ok (.iadd, 1) := by decide +kernel
theorem dL_law_443 : decode cL_law 443 = .ok (.iaload, 1) := by decide +kernel
theorem dL_law_444 : decode cL_law 444 = .ok (.aload_n 0, 1) := by decide +kernel
theorem dL_law_445 : decode cL_law 445 = .ok (.iload 4, 2) := by decide +kernel
theorem dL_law_447 : decode cL_law 447 = .ok (.iconst 3, 1) := by decide +kernel
theorem dL_law_448 : decode cL_law 448 = .ok (.iadd, 1) := by decide +kernel
theorem dL_law_449 : decode cL_law 449 = .ok (.iaload, 1) := by decide +kernel
theorem dL_law_450 : decode cL_law 450 = .ok (.aload_n 0, 1) := by decide +kernel
theorem dL_law_451 : decode cL_law 451 = .ok (.iload 4, 2) := by decide +kernel
theorem dL_law_453 : decode cL_law 453 = .ok (.iconst 4, 1) := by decide +kernel
theorem dL_law_454 : decode cL_law 454 = .ok (.iadd, 1) := by decide +kernel
theorem dL_law_455 : decode cL_law 455 = .ok (.iaload, 1) := by decide +kernel
theorem dL_law_456 : decode cL_law 456 = .ok (.aload_n 3, 1) := by decide +kernel
theorem dL_law_457 : decode cL_law 457 = .ok (.invokestatic 119, 3) := by decide +kernel
theorem dL_law_460 : decode cL_law 460 = .ok (.istore 5, 2) := by decide +kernel
theorem dL_law_462 : decode cL_law 462 = .ok (.aload_n 2, 1) := by decide +kernel
theorem dL_law_463 : decode cL_law 463 = .ok (.aload_n 0, 1) := by decide +kernel
theorem dL_law_464 : decode cL_law 464 = .ok (.iload 4, 2) := by decide +kernel
theorem dL_law_466 : decode cL_law 466 = .ok (.iconst 1, 1) := by decide +kernel
theorem dL_law_467 : decode cL_law 467 = .ok (.iadd, 1) := by decide +kernel
theorem dL_law_468 : decode cL_law 468 = .ok (.iaload, 1) := by decide +kernel
theorem dL_law_469 : decode cL_law 469 = .ok (.aload_n 0, 1) := by decide +kernel
theorem dL_law_470 : decode cL_law 470 = .ok (.iload 4, 2) := by decide +kernel
theorem dL_law_472 : decode cL_law 472 = .ok (.iconst 2, 1) := by decide +kernel
theorem dL_law_473 : decode cL_law 473 = .ok (.iadd, 1) := by decide +kernel
theorem dL_law_474 : decode cL_law 474 = .ok (.iaload, 1) := by decide +kernel
theorem dL_law_475 : decode cL_law 475 = .ok (.aload_n 0, 1) := by decide +kernel
theorem dL_law_476 : decode cL_law 476 = .ok (.iload 4, 2) := by decide +kernel
theorem dL_law_478 : decode cL_law 478 = .ok (.iconst 3, 1) := by decide +kernel
theorem dL_law_479 : decode cL_law 479 = .ok (.iadd, 1) := by decide +kernel
theorem dL_law_480 : decode cL_law 480 = .ok (.iaload, 1) := by decide +kernel
theorem dL_law_481 : decode cL_law 481 = .ok (.aload_n 0, 1) := by decide +kernel
theorem dL_law_482 : decode cL_law 482 = .ok (.iload 4, 2) := by decide +kernel
theorem dL_law_484 : decode cL_law 484 = .ok (.iconst 4, 1) := by decide +kernel
theorem dL_law_485 : decode cL_law 485 = .ok (.iadd, 1) := by decide +kernel
theorem dL_law_486 : decode cL_law 486 = .ok (.iaload, 1) := by decide +kernel
theorem dL_law_487 : decode cL_law 487 = .ok (.invokevirtual 122, 3) := by decide +kernel
theorem dL_law_490 : decode cL_law 490 = .ok (.istore 6, 2) := by decide +kernel
theorem dL_law_492 : decode cL_law 492 = .ok (.aload_n 2, 1) := by decide +kernel
theorem dL_law_493 : decode cL_law 493 = .ok (.invokevirtual 104, 3) := by decide +kernel
theorem dL_law_496 : decode cL_law 496 = .ok (.iload 5, 2) := by decide +kernel
theorem dL_law_498 : decode cL_law 498 = .ok (.if_icmp .eq 5, 3) := by decide +kernel
theorem dL_law_501 : decode cL_law 501 = .ok (.iconst 0, 1) := by decide +kernel
theorem dL_law_502 : decode cL_law 502 = .ok (.ireturn, 1) := by decide +kernel
theorem dL_law_503 : decode cL_law 503 = .ok (.iload 5, 2) := by decide +kernel
theorem dL_law_505 : decode cL_law 505 = .ok (.ifCond .ne 15, 3) := by decide +kernel
theorem dL_law_508 : decode cL_law 508 = .ok (.aload_n 3, 1) := by decide +kernel
theorem dL_law_509 : decode cL_law 509 = .ok (.iconst 0, 1) := by decide +kernel
theorem dL_law_510 : decode cL_law 510 = .ok (.laload, 1) := by decide +kernel
theorem dL_law_511 : decode cL_law 511 = .ok (.iload 6, 2) := by decide +kernel
theorem dL_law_513 : decode cL_law 513 = .ok (.i2l, 1) := by decide +kernel
theorem dL_law_514 : decode cL_law 514 = .ok (.lcmp, 1) := by decide +kernel
theorem dL_law_515 : decode cL_law 515 = .ok (.ifCond .eq 5, 3) := by decide +kernel
theorem dL_law_518 : decode cL_law 518 = .ok (.iconst 0, 1) := by decide +kernel
theorem dL_law_519 : decode cL_law 519 = .ok (.ireturn, 1) := by decide +kernel
theorem dL_law_520 : decode cL_law 520 = .ok (.goto 1353, 3) := by decide +kernel
def fLaw_4 (xs : Nat → Int32) (nL : Nat) (i : Int32) (m : dM) : Option dM := dg (dIx (i + 1) nL) (dg (dIx (i + 2) nL) (dg (dIx (i + 3) nL) (dg (dIx (i + 4) nL) ((fL_line m 0 (xs (Int32.toNatClampNeg (i + 1))) (xs (Int32.toNatClampNeg (i + 2))) (xs (Int32.toNatClampNeg (i + 3))) (xs (Int32.toNatClampNeg (i + 4))) 463).bind (fun q => dP2 q (fun v3 m2 => dg (dIx (i + 1) nL) (dg (dIx (i + 2) nL) (dg (dIx (i + 3) nL) (dg (dIx (i + 4) nL) ((fX12_line m2 444 (xs (Int32.toNatClampNeg (i + 1))) (xs (Int32.toNatClampNeg (i + 2))) (xs (Int32.toNatClampNeg (i + 3))) (xs (Int32.toNatClampNeg (i + 4)))).bind (fun q => dP2 q (fun v6 m5 => (fX12_thrown m5 444).bind (fun v8 => if v8 = v3 then if v3 = 0 then dg (dIx 0 (dL 463)) (if (lg_cmp (m5.2 463 (Int32.toNatClampNeg (0))) (Int32.toInt64 v6)) = 0 then some m5 else none) else some m5 else none)))))))))))))
set_option maxHeartbeats 4000000 in
set_option maxRecDepth 100000 in
theorem kLaw_4 {p : Program} {l : Launch} {e : Env} {s : State} {mth : MethodId} {below : List Frame} {meth : Method} {c : Code} {b nL : Nat} {xs : Nat → Int32} {g : dG} {Q : State → Prop} {H : Heap} {locs : List Loc} {cells slots : Nat} {ls : Array Slot} {i : Int32} {m m9 : dM} (hst : l.stackTraces = false) (S : CallFix p mth c cL_law 8 s #[Value.ref b] wsL_law RL) (hX : va_X b nL xs s s.heap) (hbl : b < s.heap.size) (hbA : ¬ dA g b) (hE : dEnv g s) (hR : cells + 6 ≤ room_1.cells ∧ slots + 36 ≤ room_1.slots) (h : fLaw_4 xs nL i m = some m9) (hP : va_P g.1 vwCl (dws g m) H) (hS : va_S (dA g) s.heap H locs) (hl : lv_has ls 8 [(4, .int i), (0, .ref b), (1, .ref (dad g 0)), (2, .ref (dad g 444)), (3, .ref (dad g 463))])
    (kk : ∀ (H : Heap) (locs : List Loc) (ls : Array Slot) (cells2 slots2 : Nat), cells2 ≤ cells + 6 → slots2 ≤ slots + 36 → va_P g.1 vwCl (dws g m9) H → va_S (dA g) s.heap H locs → lv_has ls 8 [(4, .int i), (0, .ref b), (1, .ref (dad g 0)), (2, .ref (dad g 444)), (3, .ref (dad g 463))] → W p l e room_1 s mth #[Value.ref b] below meth c H locs cells2 slots2 Q (F0 mth 1873 ls [])) : W p l e room_1 s mth #[Value.ref b] below meth c H locs cells slots Q (F0 mth 431 ls []) := by
  obtain ⟨hR1, hR2⟩ := hR
  unfold fLaw_4 at h
  refine lv_aload_n S.1 S.2.1 dL_law_431 rfl (lv_at hl 2 rfl) ?_
  refine lv_aload_n S.1 S.2.1 dL_law_432 rfl (lv_at hl 1 rfl) ?_
  refine lv_iload S.1 S.2.1 dL_law_433 (lv_at hl 0 rfl) ?_
  refine lv_iconst (v := 1) S.1 S.2.1 dL_law_435 (by decide) ?_
  refine lv_iadd S.1 S.2.1 dL_law_436 ?_
  obtain ⟨hi, h⟩ := d_g h
  refine va_sld S.1 S.2.1 hX hbl hbA hS (dIx_in hi) dL_law_437 ?_
  refine lv_aload_n S.1 S.2.1 dL_law_438 rfl (lv_at hl 1 rfl) ?_
  refine lv_iload S.1 S.2.1 dL_law_439 (lv_at hl 0 rfl) ?_
  refine lv_iconst (v := 2) S.1 S.2.1 dL_law_441 (by decide) ?_
  refine lv_iadd S.1 S.2.1 dL_law_442 ?_
  obtain ⟨hi, h⟩ := d_g h
  refine va_sld S.1 S.2.1 hX hbl hbA hS (dIx_in hi) dL_law_443 ?_
  refine lv_aload_n S.1 S.2.1 dL_law_444 rfl (lv_at hl 1 rfl) ?_
  refine lv_iload S.1 S.2.1 dL_law_445 (lv_at hl 0 rfl) ?_
  refine lv_iconst (v := 3) S.1 S.2.1 dL_law_447 (by decide) ?_
  refine lv_iadd S.1 S.2.1 dL_law_448 ?_
  obtain ⟨hi, h⟩ := d_g h
  refine va_sld S.1 S.2.1 hX hbl hbA hS (dIx_in hi) dL_law_449 ?_
  refine lv_aload_n S.1 S.2.1 dL_law_450 rfl (lv_at hl 1 rfl) ?_
  refine lv_iload S.1 S.2.1 dL_law_451 (lv_at hl 0 rfl) ?_
  refine lv_iconst (v := 4) S.1 S.2.1 dL_law_453 (by decide) ?_
  refine lv_iadd S.1 S.2.1 dL_law_454 ?_
  obtain ⟨hi, h⟩ := d_g h
  refine va_sld S.1 S.2.1 hX hbl hbA hS (dIx_in hi) dL_law_455 ?_
  refine lv_aload_n S.1 S.2.1 dL_law_456 rfl (lv_at hl 4 rfl) ?_
  obtain ⟨⟨v3, m2⟩, hc1, h⟩ := d_b h
  have h := d_p2 h
  refine dLri (vx_runSX (As := [.ref (dad g 0), .int (xs (Int32.toNatClampNeg (i + 1))), .int (xs (Int32.toNatClampNeg (i + 2))), .int (xs (Int32.toNatClampNeg (i + 3))), .int (xs (Int32.toNatClampNeg (i + 4))), .ref (dad g 463)]) (rest := []) S (kL_line l g hst hc1) (vx_cwSW 6 S.2.2.2.2 gL_law_L_line rfl rfl rfl ynL_line ⟨(Nat.le_of_ble_eq_true rfl), (Nat.le_of_ble_eq_true rfl)⟩) (dpS hE hP hS) rfl rfl hl.1 rfl (lv_room (Nat.le_of_ble_eq_true rfl)) dL_law_457 ⟨by omega, by omega⟩) hS (fun H locs hP hS => ?_)
  refine lv_istore (lv' := [(5, .int v3), (4, .int i), (0, .ref b), (1, .ref (dad g 0)), (2, .ref (dad g 444)), (3, .ref (dad g 463))]) S.1 S.2.1 dL_law_460 hl (by decide) rfl (fun ls hl => ?_)
  refine lv_aload_n S.1 S.2.1 dL_law_462 rfl (lv_at hl 4 rfl) ?_
  refine lv_aload_n S.1 S.2.1 dL_law_463 rfl (lv_at hl 2 rfl) ?_
  refine lv_iload S.1 S.2.1 dL_law_464 (lv_at hl 1 rfl) ?_
  refine lv_iconst (v := 1) S.1 S.2.1 dL_law_466 (by decide) ?_
  refine lv_iadd S.1 S.2.1 dL_law_467 ?_
  obtain ⟨hi, h⟩ := d_g h
  refine va_sld S.1 S.2.1 hX hbl hbA hS (dIx_in hi) dL_law_468 ?_
  refine lv_aload_n S.1 S.2.1 dL_law_469 rfl (lv_at hl 2 rfl) ?_
  refine lv_iload S.1 S.2.1 dL_law_470 (lv_at hl 1 rfl) ?_
  refine lv_iconst (v := 2) S.1 S.2.1 dL_law_472 (by decide) ?_
  refine lv_iadd S.1 S.2.1 dL_law_473 ?_
  obtain ⟨hi, h⟩ := d_g h
  refine va_sld S.1 S.2.1 hX hbl hbA hS (dIx_in hi) dL_law_474 ?_
  refine lv_aload_n S.1 S.2.1 dL_law_475 rfl (lv_at hl 2 rfl) ?_
  refine lv_iload S.1 S.2.1 dL_law_476 (lv_at hl 1 rfl) ?_
  refine lv_iconst (v := 3) S.1 S.2.1 dL_law_478 (by decide) ?_
  refine lv_iadd S.1 S.2.1 dL_law_479 ?_
  obtain ⟨hi, h⟩ := d_g h
  refine va_sld S.1 S.2.1 hX hbl hbA hS (dIx_in hi) dL_law_480 ?_
  refine lv_aload_n S.1 S.2.1 dL_law_481 rfl (lv_at hl 2 rfl) ?_
  refine lv_iload S.1 S.2.1 dL_law_482 (lv_at hl 1 rfl) ?_
  refine lv_iconst (v := 4) S.1 S.2.1 dL_law_484 (by decide) ?_
  refine lv_iadd S.1 S.2.1 dL_law_485 ?_
  obtain ⟨hi, h⟩ := d_g h
  refine va_sld S.1 S.2.1 hX hbl hbA hS (dIx_in hi) dL_law_486 ?_
  obtain ⟨⟨v6, m5⟩, hc4, h⟩ := d_b h
  have h := d_p2 h
  refine dri (va_runV (As := [.int (xs (Int32.toNatClampNeg (i + 1))), .int (xs (Int32.toNatClampNeg (i + 2))), .int (xs (Int32.toNatClampNeg (i + 3))), .int (xs (Int32.toNatClampNeg (i + 4)))]) (rest := []) S (kX12_line l g hc4) (cwV 4 S.2.2.2.2 gL_law_X12_line rfl rfl rfl ynX12_line ⟨Nat.le_of_ble_eq_true rfl, Nat.le_of_ble_eq_true rfl⟩) (dpV hE hP hS (ci := 12) rfl (dat13 dk_444)) rfl rfl hl.1 rfl (lv_room (Nat.le_of_ble_eq_true rfl)) dL_law_487 ⟨by omega, by omega⟩) hS (fun H locs hP hS => ?_)
  refine lv_istore (lv' := [(6, .int v6), (5, .int v3), (4, .int i), (0, .ref b), (1, .ref (dad g 0)), (2, .ref (dad g 444)), (3, .ref (dad g 463))]) S.1 S.2.1 dL_law_490 hl (by decide) rfl (fun ls hl => ?_)
  refine lv_aload_n S.1 S.2.1 dL_law_492 rfl (lv_at hl 5 rfl) ?_
  obtain ⟨v8, hc7, h⟩ := d_b h
  refine dri (va_runV (As := []) (rest := []) S (kX12_thrown l g hc7) (cwV 0 S.2.2.2.2 gL_law_X12_thrown rfl rfl rfl ynX12_thrown ⟨Nat.le_of_ble_eq_true rfl, Nat.le_of_ble_eq_true rfl⟩) (dpV hE hP hS (ci := 12) rfl (dat13 dk_444)) rfl rfl hl.1 rfl (lv_room (Nat.le_of_ble_eq_true rfl)) dL_law_493 ⟨by omega, by omega⟩) hS (fun H locs hP hS => ?_)
  refine lv_iload S.1 S.2.1 dL_law_496 (lv_at hl 1 rfl) ?_
  refine lv_icmp_eq (tgt := 503) S.1 S.2.1 dL_law_498 (by decide) (fun cq => ?_) (fun cq => ?_)
  · have h := d_t cq h
    refine lv_iload S.1 S.2.1 dL_law_503 (lv_at hl 1 rfl) ?_
    refine lv_if_ne (tgt := 520) S.1 S.2.1 dL_law_505 (by decide) (fun cq => ?_) (fun cq => ?_)
    · have h := d_f cq h
      refine lv_goto (tgt := 1873) S.1 S.2.1 dL_law_520 (by decide) ?_
      obtain rfl := Option.some.inj h
      exact kk H locs ls _ _ (by omega) (by omega) hP hS (lv_sub hl [2, 3, 4, 5, 6] rfl)
    · have h := d_t cq h
      refine lv_aload_n S.1 S.2.1 dL_law_508 rfl (lv_at hl 6 rfl) ?_
      refine lv_iconst (v := 0) S.1 S.2.1 dL_law_509 (by decide) ?_
      obtain ⟨hi, h⟩ := d_g h
      refine d_lald S hE hP dk_463 hi dL_law_510 ?_
      refine lv_iload S.1 S.2.1 dL_law_511 (lv_at hl 0 rfl) ?_
      refine lv_i2l S.1 S.2.1 dL_law_513 rfl ?_
      refine W.lcmp S.1 S.2.1 dL_law_514 ?_
      refine lv_if_eq (tgt := 520) S.1 S.2.1 dL_law_515 (by decide) (fun cq => ?_) (fun cq => ?_)
      · have h := d_t cq h
        refine lv_goto (tgt := 1873) S.1 S.2.1 dL_law_520 (by decide) ?_
        obtain rfl := Option.some.inj h
        exact kk H locs ls _ _ (by omega) (by omega) hP hS (lv_sub hl [2, 3, 4, 5, 6] rfl)
      · have h := d_f cq h
        cases h
  · have h := d_f cq h
    cases h
theorem dL_law_523 : decode cL_law 523 = .ok (.aload_n 1, 1) := by decide +kernel
theorem dL_law_524 : decode cL_law 524 = .ok (.aload_n 0, 1) := by decide +kernel
theorem dL_law_525 : decode cL_law 525 = .ok (.iload 4, 2) := by decide +kernel
theorem dL_law_527 : decode cL_law 527 = .ok (.iconst 1, 1) := by decide +kernel
theorem dL_law_528 : decode cL_law 528 = .ok (.iadd, 1) := by decide +kernel
theorem dL_law_529 : decode cL_law 529 = .ok (.iaload, 1) := by decide +kernel
theorem dL_law_530 : decode cL_law 530 = .ok (.aload_n 0, 1) := by decide +kernel
theorem dL_law_531 : decode cL_law 531 = .ok (.iload 4, 2) := by decide +kernel
theorem dL_law_533 : decode cL_law 533 = .ok (.iconst 2, 1) := by decide +kernel
theorem dL_law_534 : decode cL_law 534 = .ok (.iadd, 1) := by decide +kernel
theorem dL_law_535 : decode cL_law 535 = .ok (.iaload, 1) := by decide +kernel
theorem dL_law_536 : decode cL_law 536 = .ok (.aload_n 0, 1) := by decide +kernel
theorem dL_law_537 : decode cL_law 537 = .ok (.iload 4, 2) := by decide +kernel
theorem dL_law_539 : decode cL_law 539 = .ok (.iconst 3, 1) := by decide +kernel
theorem dL_law_540 : decode cL_law 540 = .ok (.iadd, 1) := by decide +kernel
theorem dL_law_541 : decode cL_law 541 = .ok (.iaload, 1) := by decide +kernel
theorem dL_law_542 : decode cL_law 542 = .ok (.aload_n 0, 1) := by decide +kernel
theorem dL_law_543 : decode cL_law 543 = .ok (.iload 4, 2) := by decide +kernel
theorem dL_law_545 : decode cL_law 545 = .ok (.iconst 4, 1) := by decide +kernel
theorem dL_law_546 : decode cL_law 546 = .ok (.iadd, 1) := by decide +kernel
theorem dL_law_547 : decode cL_law 547 = .ok (.iaload, 1) := by decide +kernel
theorem dL_law_548 : decode cL_law 548 = .ok (.aload_n 3, 1) := by decide +kernel
theorem dL_law_549 : decode cL_law 549 = .ok (.invokestatic 123, 3) := by decide +kernel
theorem dL_law_552 : decode cL_law 552 = .ok (.istore 5, 2) := by decide +kernel
theorem dL_law_554 : decode cL_law 554 = .ok (.aload_n 2, 1) := by decide +kernel
theorem dL_law_555 : decode cL_law 555 = .ok (.aload_n 0, 1) := by decide +kernel
theorem dL_law_556 : decode cL_law 556 = .ok (.iload 4, 2) := by decide +kernel
theorem dL_law_558 : decode cL_law 558 = .ok (.iconst 1, 1) := by decide +kernel
theorem dL_law_559 : decode cL_law 559 = .ok (.iadd, 1) := by decide +kernel
theorem dL_law_560 : decode cL_law 560 = .ok (.iaload, 1) := by decide +kernel
theorem dL_law_561 : decode cL_law 561 = .ok (.aload_n 0, 1) := by decide +kernel
theorem dL_law_562 : decode cL_law 562 = .ok (.iload 4, 2) := by decide +kernel
theorem dL_law_564 : decode cL_law 564 = .ok (.iconst 2, 1) := by decide +kernel
theorem dL_law_565 : decode cL_law 565 = .ok (.iadd, 1) := by decide +kernel
theorem dL_law_566 : decode cL_law 566 = .ok (.iaload, 1) := by decide +kernel
theorem dL_law_567 : decode cL_law 567 = .ok (.aload_n 0, 1) := by decide +kernel
theorem dL_law_568 : decode cL_law 568 = .ok (.iload 4, 2) := by decide +kernel
theorem dL_law_570 : decode cL_law 570 = .ok (.iconst 3, 1) := by decide +kernel
theorem dL_law_571 : decode cL_law 571 = .ok (.iadd, 1) := by decide +kernel
theorem dL_law_572 : decode cL_law 572 = .ok (.iaload, 1) := by decide +kernel
theorem dL_law_573 : decode cL_law 573 = .ok (.aload_n 0, 1) := by decide +kernel
theorem dL_law_574 : decode cL_law 574 = .ok (.iload 4, 2) := by decide +kernel
theorem dL_law_576 : decode cL_law 576 = .ok (.iconst 4, 1) := by decide +kernel
theorem dL_law_577 : decode cL_law 577 = .ok (.iadd, 1) := by decide +kernel
theorem dL_law_578 : decode cL_law 578 = .ok (.iaload, 1) := by decide +kernel
theorem dL_law_579 : decode cL_law 579 = .ok (.invokevirtual 125, 3) := by decide +kernel
theorem dL_law_582 : decode cL_law 582 = .ok (.istore 6, 2) := by decide +kernel
theorem dL_law_584 : decode cL_law 584 = .ok (.aload_n 2, 1) := by decide +kernel
theorem dL_law_585 : decode cL_law 585 = .ok (.invokevirtual 104, 3) := by decide +kernel
theorem dL_law_588 : decode cL_law 588 = .ok (.iload 5, 2) := by decide +kernel
theorem dL_law_590 : decode cL_law 590 = .ok (.if_icmp .eq 5, 3) := by decide +kernel
theorem dL_law_593 : decode cL_law 593 = .ok (.iconst 0, 1) := by decide +kernel
theorem dL_law_594 : decode cL_law 594 = .ok (.ireturn, 1) := by decide +kernel
theorem dL_law_595 : decode cL_law 595 = .ok (.iload 5, 2) := by decide +kernel
theorem dL_law_597 : decode cL_law 597 = .ok (.ifCond .ne 15, 3) := by decide +kernel
theorem dL_law_600 : decode cL_law 600 = .ok (.aload_n 3, 1) := by decide +kernel
theorem dL_law_601 : decode cL_law 601 = .ok (.iconst 0, 1) := by decide +kernel
theorem dL_law_602 : decode cL_law 602 = .ok (.laload, 1) := by decide +kernel
theorem dL_law_603 : decode cL_law 603 = .ok (.iload 6, 2) := by decide +kernel
theorem dL_law_605 : decode cL_law 605 = .ok (.i2l, 1) := by decide +kernel
theorem dL_law_606 : decode cL_law 606 = .ok (.lcmp, 1) := by decide +kernel
theorem dL_law_607 : decode cL_law 607 = .ok (.ifCond .eq 5, 3) := by decide +kernel
theorem dL_law_610 : decode cL_law 610 = .ok (.iconst 0, 1) := by decide +kernel
theorem dL_law_611 : decode cL_law 611 = .ok (.ireturn, 1) := by decide +kernel
theorem dL_law_612 : decode cL_law 612 = .ok (.goto 1261, 3) := by decide +kernel
def fLaw_5 (xs : Nat → Int32) (nL : Nat) (i : Int32) (m : dM) : Option dM := dg (dIx (i + 1) nL) (dg (dIx (i + 2) nL) (dg (dIx (i + 3) nL) (dg (dIx (i + 4) nL) ((fL_block m 0 (xs (Int32.toNatClampNeg (i + 1))) (xs (Int32.toNatClampNeg (i + 2))) (xs (Int32.toNatClampNeg (i + 3))) (xs (Int32.toNatClampNeg (i + 4))) 463).bind (fun q => dP2 q (fun v3 m2 => dg (dIx (i + 1) nL) (dg (dIx (i + 2) nL) (dg (dIx (i + 3) nL) (dg (dIx (i + 4) nL) ((fX12_block m2 444 (xs (Int32.toNatClampNeg (i + 1))) (xs (Int32.toNatClampNeg (i + 2))) (xs (Int32.toNatClampNeg (i + 3))) (xs (Int32.toNatClampNeg (i + 4)))).bind (fun q => dP2 q (fun v6 m5 => (fX12_thrown m5 444).bind (fun v8 => if v8 = v3 then if v3 = 0 then dg (dIx 0 (dL 463)) (if (lg_cmp (m5.2 463 (Int32.toNatClampNeg (0))) (Int32.toInt64 v6)) = 0 then some m5 else none) else some m5 else none)))))))))))))
set_option maxHeartbeats 4000000 in
set_option maxRecDepth 100000 in
theorem kLaw_5 {p : Program} {l : Launch} {e : Env} {s : State} {mth : MethodId} {below : List Frame} {meth : Method} {c : Code} {b nL : Nat} {xs : Nat → Int32} {g : dG} {Q : State → Prop} {H : Heap} {locs : List Loc} {cells slots : Nat} {ls : Array Slot} {i : Int32} {m m9 : dM} (hst : l.stackTraces = false) (S : CallFix p mth c cL_law 8 s #[Value.ref b] wsL_law RL) (hX : va_X b nL xs s s.heap) (hbl : b < s.heap.size) (hbA : ¬ dA g b) (hE : dEnv g s) (hR : cells + 6 ≤ room_1.cells ∧ slots + 36 ≤ room_1.slots) (h : fLaw_5 xs nL i m = some m9) (hP : va_P g.1 vwCl (dws g m) H) (hS : va_S (dA g) s.heap H locs) (hl : lv_has ls 8 [(4, .int i), (0, .ref b), (1, .ref (dad g 0)), (2, .ref (dad g 444)), (3, .ref (dad g 463))])
    (kk : ∀ (H : Heap) (locs : List Loc) (ls : Array Slot) (cells2 slots2 : Nat), cells2 ≤ cells + 6 → slots2 ≤ slots + 36 → va_P g.1 vwCl (dws g m9) H → va_S (dA g) s.heap H locs → lv_has ls 8 [(4, .int i), (0, .ref b), (1, .ref (dad g 0)), (2, .ref (dad g 444)), (3, .ref (dad g 463))] → W p l e room_1 s mth #[Value.ref b] below meth c H locs cells2 slots2 Q (F0 mth 1873 ls [])) : W p l e room_1 s mth #[Value.ref b] below meth c H locs cells slots Q (F0 mth 523 ls []) := by
  obtain ⟨hR1, hR2⟩ := hR
  unfold fLaw_5 at h
  refine lv_aload_n S.1 S.2.1 dL_law_523 rfl (lv_at hl 2 rfl) ?_
  refine lv_aload_n S.1 S.2.1 dL_law_524 rfl (lv_at hl 1 rfl) ?_
  refine lv_iload S.1 S.2.1 dL_law_525 (lv_at hl 0 rfl) ?_
  refine lv_iconst (v := 1) S.1 S.2.1 dL_law_527 (by decide) ?_
  refine lv_iadd S.1 S.2.1 dL_law_528 ?_
  obtain ⟨hi, h⟩ := d_g h
  refine va_sld S.1 S.2.1 hX hbl hbA hS (dIx_in hi) dL_law_529 ?_
  refine lv_aload_n S.1 S.2.1 dL_law_530 rfl (lv_at hl 1 rfl) ?_
  refine lv_iload S.1 S.2.1 dL_law_531 (lv_at hl 0 rfl) ?_
  refine lv_iconst (v := 2) S.1 S.2.1 dL_law_533 (by decide) ?_
  refine lv_iadd S.1 S.2.1 dL_law_534 ?_
  obtain ⟨hi, h⟩ := d_g h
  refine va_sld S.1 S.2.1 hX hbl hbA hS (dIx_in hi) dL_law_535 ?_
  refine lv_aload_n S.1 S.2.1 dL_law_536 rfl (lv_at hl 1 rfl) ?_
  refine lv_iload S.1 S.2.1 dL_law_537 (lv_at hl 0 rfl) ?_
  refine lv_iconst (v := 3) S.1 S.2.1 dL_law_539 (by decide) ?_
  refine lv_iadd S.1 S.2.1 dL_law_540 ?_
  obtain ⟨hi, h⟩ := d_g h
  refine va_sld S.1 S.2.1 hX hbl hbA hS (dIx_in hi) dL_law_541 ?_
  refine lv_aload_n S.1 S.2.1 dL_law_542 rfl (lv_at hl 1 rfl) ?_
  refine lv_iload S.1 S.2.1 dL_law_543 (lv_at hl 0 rfl) ?_
  refine lv_iconst (v := 4) S.1 S.2.1 dL_law_545 (by decide) ?_
  refine lv_iadd S.1 S.2.1 dL_law_546 ?_
  obtain ⟨hi, h⟩ := d_g h
  refine va_sld S.1 S.2.1 hX hbl hbA hS (dIx_in hi) dL_law_547 ?_
  refine lv_aload_n S.1 S.2.1 dL_law_548 rfl (lv_at hl 4 rfl) ?_
  obtain ⟨⟨v3, m2⟩, hc1, h⟩ := d_b h
  have h := d_p2 h
  refine dLri (vx_runSX (As := [.ref (dad g 0), .int (xs (Int32.toNatClampNeg (i + 1))), .int (xs (Int32.toNatClampNeg (i + 2))), .int (xs (Int32.toNatClampNeg (i + 3))), .int (xs (Int32.toNatClampNeg (i + 4))), .ref (dad g 463)]) (rest := []) S (kL_block l g hst hc1) (vx_cwSW 6 S.2.2.2.2 gL_law_L_block rfl rfl rfl ynL_block ⟨(Nat.le_of_ble_eq_true rfl), (Nat.le_of_ble_eq_true rfl)⟩) (dpS hE hP hS) rfl rfl hl.1 rfl (lv_room (Nat.le_of_ble_eq_true rfl)) dL_law_549 ⟨by omega, by omega⟩) hS (fun H locs hP hS => ?_)
  refine lv_istore (lv' := [(5, .int v3), (4, .int i), (0, .ref b), (1, .ref (dad g 0)), (2, .ref (dad g 444)), (3, .ref (dad g 463))]) S.1 S.2.1 dL_law_552 hl (by decide) rfl (fun ls hl => ?_)
  refine lv_aload_n S.1 S.2.1 dL_law_554 rfl (lv_at hl 4 rfl) ?_
  refine lv_aload_n S.1 S.2.1 dL_law_555 rfl (lv_at hl 2 rfl) ?_
  refine lv_iload S.1 S.2.1 dL_law_556 (lv_at hl 1 rfl) ?_
  refine lv_iconst (v := 1) S.1 S.2.1 dL_law_558 (by decide) ?_
  refine lv_iadd S.1 S.2.1 dL_law_559 ?_
  obtain ⟨hi, h⟩ := d_g h
  refine va_sld S.1 S.2.1 hX hbl hbA hS (dIx_in hi) dL_law_560 ?_
  refine lv_aload_n S.1 S.2.1 dL_law_561 rfl (lv_at hl 2 rfl) ?_
  refine lv_iload S.1 S.2.1 dL_law_562 (lv_at hl 1 rfl) ?_
  refine lv_iconst (v := 2) S.1 S.2.1 dL_law_564 (by decide) ?_
  refine lv_iadd S.1 S.2.1 dL_law_565 ?_
  obtain ⟨hi, h⟩ := d_g h
  refine va_sld S.1 S.2.1 hX hbl hbA hS (dIx_in hi) dL_law_566 ?_
  refine lv_aload_n S.1 S.2.1 dL_law_567 rfl (lv_at hl 2 rfl) ?_
  refine lv_iload S.1 S.2.1 dL_law_568 (lv_at hl 1 rfl) ?_
  refine lv_iconst (v := 3) S.1 S.2.1 dL_law_570 (by decide) ?_
  refine lv_iadd S.1 S.2.1 dL_law_571 ?_
  obtain ⟨hi, h⟩ := d_g h
  refine va_sld S.1 S.2.1 hX hbl hbA hS (dIx_in hi) dL_law_572 ?_
  refine lv_aload_n S.1 S.2.1 dL_law_573 rfl (lv_at hl 2 rfl) ?_
  refine lv_iload S.1 S.2.1 dL_law_574 (lv_at hl 1 rfl) ?_
  refine lv_iconst (v := 4) S.1 S.2.1 dL_law_576 (by decide) ?_
  refine lv_iadd S.1 S.2.1 dL_law_577 ?_
  obtain ⟨hi, h⟩ := d_g h
  refine va_sld S.1 S.2.1 hX hbl hbA hS (dIx_in hi) dL_law_578 ?_
  obtain ⟨⟨v6, m5⟩, hc4, h⟩ := d_b h
  have h := d_p2 h
  refine dri (va_runV (As := [.int (xs (Int32.toNatClampNeg (i + 1))), .int (xs (Int32.toNatClampNeg (i + 2))), .int (xs (Int32.toNatClampNeg (i + 3))), .int (xs (Int32.toNatClampNeg (i + 4)))]) (rest := []) S (kX12_block l g hc4) (cwV 4 S.2.2.2.2 gL_law_X12_block rfl rfl rfl ynX12_block ⟨Nat.le_of_ble_eq_true rfl, Nat.le_of_ble_eq_true rfl⟩) (dpV hE hP hS (ci := 12) rfl (dat13 dk_444)) rfl rfl hl.1 rfl (lv_room (Nat.le_of_ble_eq_true rfl)) dL_law_579 ⟨by omega, by omega⟩) hS (fun H locs hP hS => ?_)
  refine lv_istore (lv' := [(6, .int v6), (5, .int v3), (4, .int i), (0, .ref b), (1, .ref (dad g 0)), (2, .ref (dad g 444)), (3, .ref (dad g 463))]) S.1 S.2.1 dL_law_582 hl (by decide) rfl (fun ls hl => ?_)
  refine lv_aload_n S.1 S.2.1 dL_law_584 rfl (lv_at hl 5 rfl) ?_
  obtain ⟨v8, hc7, h⟩ := d_b h
  refine dri (va_runV (As := []) (rest := []) S (kX12_thrown l g hc7) (cwV 0 S.2.2.2.2 gL_law_X12_thrown rfl rfl rfl ynX12_thrown ⟨Nat.le_of_ble_eq_true rfl, Nat.le_of_ble_eq_true rfl⟩) (dpV hE hP hS (ci := 12) rfl (dat13 dk_444)) rfl rfl hl.1 rfl (lv_room (Nat.le_of_ble_eq_true rfl)) dL_law_585 ⟨by omega, by omega⟩) hS (fun H locs hP hS => ?_)
  refine lv_iload S.1 S.2.1 dL_law_588 (lv_at hl 1 rfl) ?_
  refine lv_icmp_eq (tgt := 595) S.1 S.2.1 dL_law_590 (by decide) (fun cq => ?_) (fun cq => ?_)
  · have h := d_t cq h
    refine lv_iload S.1 S.2.1 dL_law_595 (lv_at hl 1 rfl) ?_
    refine lv_if_ne (tgt := 612) S.1 S.2.1 dL_law_597 (by decide) (fun cq => ?_) (fun cq => ?_)
    · have h := d_f cq h
      refine lv_goto (tgt := 1873) S.1 S.2.1 dL_law_612 (by decide) ?_
      obtain rfl := Option.some.inj h
      exact kk H locs ls _ _ (by omega) (by omega) hP hS (lv_sub hl [2, 3, 4, 5, 6] rfl)
    · have h := d_t cq h
      refine lv_aload_n S.1 S.2.1 dL_law_600 rfl (lv_at hl 6 rfl) ?_
      refine lv_iconst (v := 0) S.1 S.2.1 dL_law_601 (by decide) ?_
      obtain ⟨hi, h⟩ := d_g h
      refine d_lald S hE hP dk_463 hi dL_law_602 ?_
      refine lv_iload S.1 S.2.1 dL_law_603 (lv_at hl 0 rfl) ?_
      refine lv_i2l S.1 S.2.1 dL_law_605 rfl ?_
      refine W.lcmp S.1 S.2.1 dL_law_606 ?_
      refine lv_if_eq (tgt := 612) S.1 S.2.1 dL_law_607 (by decide) (fun cq => ?_) (fun cq => ?_)
      · have h := d_t cq h
        refine lv_goto (tgt := 1873) S.1 S.2.1 dL_law_612 (by decide) ?_
        obtain rfl := Option.some.inj h
        exact kk H locs ls _ _ (by omega) (by omega) hP hS (lv_sub hl [2, 3, 4, 5, 6] rfl)
      · have h := d_f cq h
        cases h
  · have h := d_f cq h
    cases h
theorem dL_law_615 : decode cL_law 615 = .ok (.aload_n 1, 1) := by decide +kernel
theorem dL_law_616 : decode cL_law 616 = .ok (.aload_n 0, 1) := by decide +kernel
theorem dL_law_617 : decode cL_law 617 = .ok (.iload 4, 2) := by decide +kernel
theorem dL_law_619 : decode cL_law 619 = .ok (.iconst 1, 1) := by decide +kernel
theorem dL_law_620 : decode cL_law 620 = .ok (.iadd, 1) := by decide +kernel
theorem dL_law_621 : decode cL_law 621 = .ok (.iaload, 1) := by decide +kernel
theorem dL_law_622 : decode cL_law 622 = .ok (.aload_n 0, 1) := by decide +kernel
theorem dL_law_623 : decode cL_law 623 = .ok (.iload 4, 2) := by decide +kernel
theorem dL_law_625 : decode cL_law 625 = .ok (.iconst 2, 1) := by decide +kernel
theorem dL_law_626 : decode cL_law 626 = .ok (.iadd, 1) := by decide +kernel
theorem dL_law_627 : decode cL_law 627 = .ok (.iaload, 1) := by decide +kernel
theorem dL_law_628 : decode cL_law 628 = .ok (.aload_n 0, 1) := by decide +kernel
theorem dL_law_629 : decode cL_law 629 = .ok (.iload 4, 2) := by decide +kernel
theorem dL_law_631 : decode cL_law 631 = .ok (.iconst 3, 1) := by decide +kernel
theorem dL_law_632 : decode cL_law 632 = .ok (.iadd, 1) := by decide +kernel
theorem dL_law_633 : decode cL_law 633 = .ok (.iaload, 1) := by decide +kernel
theorem dL_law_634 : decode cL_law 634 = .ok (.aload_n 3, 1) := by decide +kernel
theorem dL_law_635 : decode cL_law 635 = .ok (.invokestatic 126, 3) := by decide +kernel
theorem dL_law_638 : decode cL_law 638 = .ok (.istore 5, 2) := by decide +kernel
theorem dL_law_640 : decode cL_law 640 = .ok (.aload_n 2, 1) := by decide +kernel
theorem dL_law_641 : decode cL_law 641 = .ok (.aload_n 0, 1) := by decide +kernel
theorem dL_law_642 : decode cL_law 642 = .ok (.iload 4, 2) := by decide +kernel
theorem dL_law_644 : decode cL_law 644 = .ok (.iconst 1, 1) := by decide +kernel
theorem dL_law_645 : decode cL_law 645 = .ok (.iadd, 1) := by decide +kernel
theorem dL_law_646 : decode cL_law 646 = .ok (.iaload, 1) := by decide +kernel
theorem dL_law_647 : decode cL_law 647 = .ok (.aload_n 0, 1) := by decide +kernel
theorem dL_law_648 : decode cL_law 648 = .ok (.iload 4, 2) := by decide +kernel
theorem dL_law_650 : decode cL_law 650 = .ok (.iconst 2, 1) := by decide +kernel
theorem dL_law_651 : decode cL_law 651 = .ok (.iadd, 1) := by decide +kernel
theorem dL_law_652 : decode cL_law 652 = .ok (.iaload, 1) := by decide +kernel
theorem dL_law_653 : decode cL_law 653 = .ok (.aload_n 0, 1) := by decide +kernel
theorem dL_law_654 : decode cL_law 654 = .ok (.iload 4, 2) := by decide +kernel
theorem dL_law_656 : decode cL_law 656 = .ok (.iconst 3, 1) := by decide +kernel
theorem dL_law_657 : decode cL_law 657 = .ok (.iadd, 1) := by decide +kernel
theorem dL_law_658 : decode cL_law 658 = .ok (.iaload, 1) := by decide +kernel
theorem dL_law_659 : decode cL_law 659 = .ok (.invokevirtual 129, 3) := by decide +kernel
theorem dL_law_662 : decode cL_law 662 = .ok (.istore 6, 2) := by decide +kernel
theorem dL_law_664 : decode cL_law 664 = .ok (.aload_n 2, 1) := by decide +kernel
theorem dL_law_665 : decode cL_law 665 = .ok (.invokevirtual 104, 3) := by decide +kernel
theorem dL_law_668 : decode cL_law 668 = .ok (.iload 5, 2) := by decide +kernel
theorem dL_law_670 : decode cL_law 670 = .ok (.if_icmp .eq 5, 3) := by decide +kernel
theorem dL_law_673 : decode cL_law 673 = .ok (.iconst 0, 1) := by decide +kernel
theorem dL_law_674 : decode cL_law 674 = .ok (.ireturn, 1) := by decide +kernel
theorem dL_law_675 : decode cL_law 675 = .ok (.iload 5, 2) := by decide +kernel
theorem dL_law_677 : decode cL_law 677 = .ok (.ifCond .ne 15, 3) := by decide +kernel
theorem dL_law_680 : decode cL_law 680 = .ok (.aload_n 3, 1) := by decide +kernel
theorem dL_law_681 : decode cL_law 681 = .ok (.iconst 0, 1) := by decide +kernel
theorem dL_law_682 : decode cL_law 682 = .ok (.laload, 1) := by decide +kernel
theorem dL_law_683 : decode cL_law 683 = .ok (.iload 6, 2) := by decide +kernel
theorem dL_law_685 : decode cL_law 685 = .ok (.i2l, 1) := by decide +kernel
theorem dL_law_686 : decode cL_law 686 = .ok (.lcmp, 1) := by decide +kernel
theorem dL_law_687 : decode cL_law 687 = .ok (.ifCond .eq 5, 3) := by decide +kernel
theorem dL_law_690 : decode cL_law 690 = .ok (.iconst 0, 1) := by decide +kernel
theorem dL_law_691 : decode cL_law 691 = .ok (.ireturn, 1) := by decide +kernel
theorem dL_law_692 : decode cL_law 692 = .ok (.goto 1181, 3) := by decide +kernel
def fLaw_6 (xs : Nat → Int32) (nL : Nat) (i : Int32) (m : dM) : Option dM := dg (dIx (i + 1) nL) (dg (dIx (i + 2) nL) (dg (dIx (i + 3) nL) ((fL_wedge m 0 (xs (Int32.toNatClampNeg (i + 1))) (xs (Int32.toNatClampNeg (i + 2))) (xs (Int32.toNatClampNeg (i + 3))) 463).bind (fun q => dP2 q (fun v3 m2 => dg (dIx (i + 1) nL) (dg (dIx (i + 2) nL) (dg (dIx (i + 3) nL) ((fX12_wedge m2 444 (xs (Int32.toNatClampNeg (i + 1))) (xs (Int32.toNatClampNeg (i + 2))) (xs (Int32.toNatClampNeg (i + 3)))).bind (fun q => dP2 q (fun v6 m5 => (fX12_thrown m5 444).bind (fun v8 => if v8 = v3 then if v3 = 0 then dg (dIx 0 (dL 463)) (if (lg_cmp (m5.2 463 (Int32.toNatClampNeg (0))) (Int32.toInt64 v6)) = 0 then some m5 else none) else some m5 else none)))))))))))
set_option maxHeartbeats 4000000 in
set_option maxRecDepth 100000 in
theorem kLaw_6 {p : Program} {l : Launch} {e : Env} {s : State} {mth : MethodId} {below : List Frame} {meth : Method} {c : Code} {b nL : Nat} {xs : Nat → Int32} {g : dG} {Q : State → Prop} {H : Heap} {locs : List Loc} {cells slots : Nat} {ls : Array Slot} {i : Int32} {m m9 : dM} (hst : l.stackTraces = false) (S : CallFix p mth c cL_law 8 s #[Value.ref b] wsL_law RL) (hX : va_X b nL xs s s.heap) (hbl : b < s.heap.size) (hbA : ¬ dA g b) (hE : dEnv g s) (hR : cells + 6 ≤ room_1.cells ∧ slots + 36 ≤ room_1.slots) (h : fLaw_6 xs nL i m = some m9) (hP : va_P g.1 vwCl (dws g m) H) (hS : va_S (dA g) s.heap H locs) (hl : lv_has ls 8 [(4, .int i), (0, .ref b), (1, .ref (dad g 0)), (2, .ref (dad g 444)), (3, .ref (dad g 463))])
    (kk : ∀ (H : Heap) (locs : List Loc) (ls : Array Slot) (cells2 slots2 : Nat), cells2 ≤ cells + 6 → slots2 ≤ slots + 36 → va_P g.1 vwCl (dws g m9) H → va_S (dA g) s.heap H locs → lv_has ls 8 [(4, .int i), (0, .ref b), (1, .ref (dad g 0)), (2, .ref (dad g 444)), (3, .ref (dad g 463))] → W p l e room_1 s mth #[Value.ref b] below meth c H locs cells2 slots2 Q (F0 mth 1873 ls [])) : W p l e room_1 s mth #[Value.ref b] below meth c H locs cells slots Q (F0 mth 615 ls []) := by
  obtain ⟨hR1, hR2⟩ := hR
  unfold fLaw_6 at h
  refine lv_aload_n S.1 S.2.1 dL_law_615 rfl (lv_at hl 2 rfl) ?_
  refine lv_aload_n S.1 S.2.1 dL_law_616 rfl (lv_at hl 1 rfl) ?_
  refine lv_iload S.1 S.2.1 dL_law_617 (lv_at hl 0 rfl) ?_
  refine lv_iconst (v := 1) S.1 S.2.1 dL_law_619 (by decide) ?_
  refine lv_iadd S.1 S.2.1 dL_law_620 ?_
  obtain ⟨hi, h⟩ := d_g h
  refine va_sld S.1 S.2.1 hX hbl hbA hS (dIx_in hi) dL_law_621 ?_
  refine lv_aload_n S.1 S.2.1 dL_law_622 rfl (lv_at hl 1 rfl) ?_
  refine lv_iload S.1 S.2.1 dL_law_623 (lv_at hl 0 rfl) ?_
  refine lv_iconst (v := 2) S.1 S.2.1 dL_law_625 (by decide) ?_
  refine lv_iadd S.1 S.2.1 dL_law_626 ?_
  obtain ⟨hi, h⟩ := d_g h
  refine va_sld S.1 S.2.1 hX hbl hbA hS (dIx_in hi) dL_law_627 ?_
  refine lv_aload_n S.1 S.2.1 dL_law_628 rfl (lv_at hl 1 rfl) ?_
  refine lv_iload S.1 S.2.1 dL_law_629 (lv_at hl 0 rfl) ?_
  refine lv_iconst (v := 3) S.1 S.2.1 dL_law_631 (by decide) ?_
  refine lv_iadd S.1 S.2.1 dL_law_632 ?_
  obtain ⟨hi, h⟩ := d_g h
  refine va_sld S.1 S.2.1 hX hbl hbA hS (dIx_in hi) dL_law_633 ?_
  refine lv_aload_n S.1 S.2.1 dL_law_634 rfl (lv_at hl 4 rfl) ?_
  obtain ⟨⟨v3, m2⟩, hc1, h⟩ := d_b h
  have h := d_p2 h
  refine dLri (vx_runSX (As := [.ref (dad g 0), .int (xs (Int32.toNatClampNeg (i + 1))), .int (xs (Int32.toNatClampNeg (i + 2))), .int (xs (Int32.toNatClampNeg (i + 3))), .ref (dad g 463)]) (rest := []) S (kL_wedge l g hst hc1) (vx_cwSW 5 S.2.2.2.2 gL_law_L_wedge rfl rfl rfl ynL_wedge ⟨(Nat.le_of_ble_eq_true rfl), (Nat.le_of_ble_eq_true rfl)⟩) (dpS hE hP hS) rfl rfl hl.1 rfl (lv_room (Nat.le_of_ble_eq_true rfl)) dL_law_635 ⟨by omega, by omega⟩) hS (fun H locs hP hS => ?_)
  refine lv_istore (lv' := [(5, .int v3), (4, .int i), (0, .ref b), (1, .ref (dad g 0)), (2, .ref (dad g 444)), (3, .ref (dad g 463))]) S.1 S.2.1 dL_law_638 hl (by decide) rfl (fun ls hl => ?_)
  refine lv_aload_n S.1 S.2.1 dL_law_640 rfl (lv_at hl 4 rfl) ?_
  refine lv_aload_n S.1 S.2.1 dL_law_641 rfl (lv_at hl 2 rfl) ?_
  refine lv_iload S.1 S.2.1 dL_law_642 (lv_at hl 1 rfl) ?_
  refine lv_iconst (v := 1) S.1 S.2.1 dL_law_644 (by decide) ?_
  refine lv_iadd S.1 S.2.1 dL_law_645 ?_
  obtain ⟨hi, h⟩ := d_g h
  refine va_sld S.1 S.2.1 hX hbl hbA hS (dIx_in hi) dL_law_646 ?_
  refine lv_aload_n S.1 S.2.1 dL_law_647 rfl (lv_at hl 2 rfl) ?_
  refine lv_iload S.1 S.2.1 dL_law_648 (lv_at hl 1 rfl) ?_
  refine lv_iconst (v := 2) S.1 S.2.1 dL_law_650 (by decide) ?_
  refine lv_iadd S.1 S.2.1 dL_law_651 ?_
  obtain ⟨hi, h⟩ := d_g h
  refine va_sld S.1 S.2.1 hX hbl hbA hS (dIx_in hi) dL_law_652 ?_
  refine lv_aload_n S.1 S.2.1 dL_law_653 rfl (lv_at hl 2 rfl) ?_
  refine lv_iload S.1 S.2.1 dL_law_654 (lv_at hl 1 rfl) ?_
  refine lv_iconst (v := 3) S.1 S.2.1 dL_law_656 (by decide) ?_
  refine lv_iadd S.1 S.2.1 dL_law_657 ?_
  obtain ⟨hi, h⟩ := d_g h
  refine va_sld S.1 S.2.1 hX hbl hbA hS (dIx_in hi) dL_law_658 ?_
  obtain ⟨⟨v6, m5⟩, hc4, h⟩ := d_b h
  have h := d_p2 h
  refine dri (va_runV (As := [.int (xs (Int32.toNatClampNeg (i + 1))), .int (xs (Int32.toNatClampNeg (i + 2))), .int (xs (Int32.toNatClampNeg (i + 3)))]) (rest := []) S (kX12_wedge l g hc4) (cwV 3 S.2.2.2.2 gL_law_X12_wedge rfl rfl rfl ynX12_wedge ⟨Nat.le_of_ble_eq_true rfl, Nat.le_of_ble_eq_true rfl⟩) (dpV hE hP hS (ci := 12) rfl (dat13 dk_444)) rfl rfl hl.1 rfl (lv_room (Nat.le_of_ble_eq_true rfl)) dL_law_659 ⟨by omega, by omega⟩) hS (fun H locs hP hS => ?_)
  refine lv_istore (lv' := [(6, .int v6), (5, .int v3), (4, .int i), (0, .ref b), (1, .ref (dad g 0)), (2, .ref (dad g 444)), (3, .ref (dad g 463))]) S.1 S.2.1 dL_law_662 hl (by decide) rfl (fun ls hl => ?_)
  refine lv_aload_n S.1 S.2.1 dL_law_664 rfl (lv_at hl 5 rfl) ?_
  obtain ⟨v8, hc7, h⟩ := d_b h
  refine dri (va_runV (As := []) (rest := []) S (kX12_thrown l g hc7) (cwV 0 S.2.2.2.2 gL_law_X12_thrown rfl rfl rfl ynX12_thrown ⟨Nat.le_of_ble_eq_true rfl, Nat.le_of_ble_eq_true rfl⟩) (dpV hE hP hS (ci := 12) rfl (dat13 dk_444)) rfl rfl hl.1 rfl (lv_room (Nat.le_of_ble_eq_true rfl)) dL_law_665 ⟨by omega, by omega⟩) hS (fun H locs hP hS => ?_)
  refine lv_iload S.1 S.2.1 dL_law_668 (lv_at hl 1 rfl) ?_
  refine lv_icmp_eq (tgt := 675) S.1 S.2.1 dL_law_670 (by decide) (fun cq => ?_) (fun cq => ?_)
  · have h := d_t cq h
    refine lv_iload S.1 S.2.1 dL_law_675 (lv_at hl 1 rfl) ?_
    refine lv_if_ne (tgt := 692) S.1 S.2.1 dL_law_677 (by decide) (fun cq => ?_) (fun cq => ?_)
    · have h := d_f cq h
      refine lv_goto (tgt := 1873) S.1 S.2.1 dL_law_692 (by decide) ?_
      obtain rfl := Option.some.inj h
      exact kk H locs ls _ _ (by omega) (by omega) hP hS (lv_sub hl [2, 3, 4, 5, 6] rfl)
    · have h := d_t cq h
      refine lv_aload_n S.1 S.2.1 dL_law_680 rfl (lv_at hl 6 rfl) ?_
      refine lv_iconst (v := 0) S.1 S.2.1 dL_law_681 (by decide) ?_
      obtain ⟨hi, h⟩ := d_g h
      refine d_lald S hE hP dk_463 hi dL_law_682 ?_
      refine lv_iload S.1 S.2.1 dL_law_683 (lv_at hl 0 rfl) ?_
      refine lv_i2l S.1 S.2.1 dL_law_685 rfl ?_
      refine W.lcmp S.1 S.2.1 dL_law_686 ?_
      refine lv_if_eq (tgt := 692) S.1 S.2.1 dL_law_687 (by decide) (fun cq => ?_) (fun cq => ?_)
      · have h := d_t cq h
        refine lv_goto (tgt := 1873) S.1 S.2.1 dL_law_692 (by decide) ?_
        obtain rfl := Option.some.inj h
        exact kk H locs ls _ _ (by omega) (by omega) hP hS (lv_sub hl [2, 3, 4, 5, 6] rfl)
      · have h := d_f cq h
        cases h
  · have h := d_f cq h
    cases h
theorem dL_law_695 : decode cL_law 695 = .ok (.aload_n 1, 1) := by decide +kernel
theorem dL_law_696 : decode cL_law 696 = .ok (.aload_n 0, 1) := by decide +kernel
theorem dL_law_697 : decode cL_law 697 = .ok (.iload 4, 2) := by decide +kernel
theorem dL_law_699 : decode cL_law 699 = .ok (.iconst 1, 1) := by decide +kernel
theorem dL_law_700 : decode cL_law 700 = .ok (.iadd, 1) := by decide +kernel
theorem dL_law_701 : decode cL_law 701 = .ok (.iaload, 1) := by decide +kernel
theorem dL_law_702 : decode cL_law 702 = .ok (.aload_n 0, 1) := by decide +kernel
theorem dL_law_703 : decode cL_law 703 = .ok (.iload 4, 2) := by decide +kernel
theorem dL_law_705 : decode cL_law 705 = .ok (.iconst 2, 1) := by decide +kernel
theorem dL_law_706 : decode cL_law 706 = .ok (.iadd, 1) := by decide +kernel
theorem dL_law_707 : decode cL_law 707 = .ok (.iaload, 1) := by decide +kernel
theorem dL_law_708 : decode cL_law 708 = .ok (.aload_n 0, 1) := by decide +kernel
theorem dL_law_709 : decode cL_law 709 = .ok (.iload 4, 2) := by decide +kernel
theorem dL_law_711 : decode cL_law 711 = .ok (.iconst 3, 1) := by decide +kernel
theorem dL_law_712 : decode cL_law 712 = .ok (.iadd, 1) := by decide +kernel
theorem dL_law_713 : decode cL_law 713 = .ok (.iaload, 1) := by decide +kernel
theorem dL_law_714 : decode cL_law 714 = .ok (.aload_n 0, 1) := by decide +kernel
theorem dL_law_715 : decode cL_law 715 = .ok (.iload 4, 2) := by decide +kernel
theorem dL_law_717 : decode cL_law 717 = .ok (.iconst 4, 1) := by decide +kernel
theorem dL_law_718 : decode cL_law 718 = .ok (.iadd, 1) := by decide +kernel
theorem dL_law_719 : decode cL_law 719 = .ok (.iaload, 1) := by decide +kernel
theorem dL_law_720 : decode cL_law 720 = .ok (.ifCond .eq 7, 3) := by decide +kernel
theorem dL_law_723 : decode cL_law 723 = .ok (.iconst 1, 1) := by decide +kernel
theorem dL_law_724 : decode cL_law 724 = .ok (.goto 4, 3) := by decide +kernel
theorem dL_law_727 : decode cL_law 727 = .ok (.iconst 0, 1) := by decide +kernel
theorem dL_law_728 : decode cL_law 728 = .ok (.aload_n 3, 1) := by decide +kernel
theorem dL_law_729 : decode cL_law 729 = .ok (.invokestatic 130, 3) := by decide +kernel
theorem dL_law_732 : decode cL_law 732 = .ok (.istore 5, 2) := by decide +kernel
theorem dL_law_734 : decode cL_law 734 = .ok (.aload_n 2, 1) := by decide +kernel
theorem dL_law_735 : decode cL_law 735 = .ok (.aload_n 0, 1) := by decide +kernel
theorem dL_law_736 : decode cL_law 736 = .ok (.iload 4, 2) := by decide +kernel
theorem dL_law_738 : decode cL_law 738 = .ok (.iconst 1, 1) := by decide +kernel
theorem dL_law_739 : decode cL_law 739 = .ok (.iadd, 1) := by decide +kernel
theorem dL_law_740 : decode cL_law 740 = .ok (.iaload, 1) := by decide +kernel
theorem dL_law_741 : decode cL_law 741 = .ok (.aload_n 0, 1) := by decide +kernel
theorem dL_law_742 : decode cL_law 742 = .ok (.iload 4, 2) := by decide +kernel
theorem dL_law_744 : decode cL_law 744 = .ok (.iconst 2, 1) := by decide +kernel
theorem dL_law_745 : decode cL_law 745 = .ok (.iadd, 1) := by decide +kernel
theorem dL_law_746 : decode cL_law 746 = .ok (.iaload, 1) := by decide +kernel
theorem dL_law_747 : decode cL_law 747 = .ok (.aload_n 0, 1) := by decide +kernel
theorem dL_law_748 : decode cL_law 748 = .ok (.iload 4, 2) := by decide +kernel
theorem dL_law_750 : decode cL_law 750 = .ok (.iconst 3, 1) := by decide +kernel
theorem dL_law_751 : decode cL_law 751 = .ok (.iadd, 1) := by decide +kernel
theorem dL_law_752 : decode cL_law 752 = .ok (.iaload, 1) := by decide +kernel
theorem dL_law_753 : decode cL_law 753 = .ok (.aload_n 0, 1) := by decide +kernel
theorem dL_law_754 : decode cL_law 754 = .ok (.iload 4, 2) := by decide +kernel
theorem dL_law_756 : decode cL_law 756 = .ok (.iconst 4, 1) := by decide +kernel
theorem dL_law_757 : decode cL_law 757 = .ok (.iadd, 1) := by decide +kernel
theorem dL_law_758 : decode cL_law 758 = .ok (.iaload, 1) := by decide +kernel
theorem dL_law_759 : decode cL_law 759 = .ok (.ifCond .eq 7, 3) := by decide +kernel
theorem dL_law_762 : decode cL_law 762 = .ok (.iconst 1, 1) := by decide +kernel
theorem dL_law_763 : decode cL_law 763 = .ok (.goto 4, 3) := by decide +kernel
theorem dL_law_766 : decode cL_law 766 = .ok (.iconst 0, 1) := by decide +kernel
theorem dL_law_767 : decode cL_law 767 = .ok (.invokevirtual 133, 3) := by decide +kernel
theorem dL_law_770 : decode cL_law 770 = .ok (.istore 6, 2) := by decide +kernel
theorem dL_law_772 : decode cL_law 772 = .ok (.aload_n 2, 1) := by decide +kernel
theorem dL_law_773 : decode cL_law 773 = .ok (.invokevirtual 104, 3) := by decide +kernel
theorem dL_law_776 : decode cL_law 776 = .ok (.iload 5, 2) := by decide +kernel
theorem dL_law_778 : decode cL_law 778 = .ok (.if_icmp .eq 5, 3) := by decide +kernel
theorem dL_law_781 : decode cL_law 781 = .ok (.iconst 0, 1) := by decide +kernel
theorem dL_law_782 : decode cL_law 782 = .ok (.ireturn, 1) := by decide +kernel
theorem dL_law_783 : decode cL_law 783 = .ok (.iload 5, 2) := by decide +kernel
theorem dL_law_785 : decode cL_law 785 = .ok (.ifCond .ne 15, 3) := by decide +kernel
theorem dL_law_788 : decode cL_law 788 = .ok (.aload_n 3, 1) := by decide +kernel
theorem dL_law_789 : decode cL_law 789 = .ok (.iconst 0, 1) := by decide +kernel
theorem dL_law_790 : decode cL_law 790 = .ok (.laload, 1) := by decide +kernel
theorem dL_law_791 : decode cL_law 791 = .ok (.iload 6, 2) := by decide +kernel
theorem dL_law_793 : decode cL_law 793 = .ok (.i2l, 1) := by decide +kernel
theorem dL_law_794 : decode cL_law 794 = .ok (.lcmp, 1) := by decide +kernel
theorem dL_law_795 : decode cL_law 795 = .ok (.ifCond .eq 5, 3) := by decide +kernel
theorem dL_law_798 : decode cL_law 798 = .ok (.iconst 0, 1) := by decide +kernel
theorem dL_law_799 : decode cL_law 799 = .ok (.ireturn, 1) := by decide +kernel
theorem dL_law_800 : decode cL_law 800 = .ok (.goto 1073, 3) := by decide +kernel
def fLaw_7 (xs : Nat → Int32) (nL : Nat) (i : Int32) (m : dM) : Option dM := dg (dIx (i + 1) nL) (dg (dIx (i + 2) nL) (dg (dIx (i + 3) nL) (dg (dIx (i + 4) nL) (if (xs (Int32.toNatClampNeg (i + 4))) = 0 then (fL_part m 0 (xs (Int32.toNatClampNeg (i + 1))) (xs (Int32.toNatClampNeg (i + 2))) (xs (Int32.toNatClampNeg (i + 3))) 0 463).bind (fun q => dP2 q (fun v3 m2 => dg (dIx (i + 1) nL) (dg (dIx (i + 2) nL) (dg (dIx (i + 3) nL) (dg (dIx (i + 4) nL) (if (xs (Int32.toNatClampNeg (i + 4))) = 0 then (fX12_part m2 444 (xs (Int32.toNatClampNeg (i + 1))) (xs (Int32.toNatClampNeg (i + 2))) (xs (Int32.toNatClampNeg (i + 3))) 0).bind (fun q => dP2 q (fun v6 m5 => (fX12_thrown m5 444).bind (fun v8 => if v8 = v3 then if v3 = 0 then dg (dIx 0 (dL 463)) (if (lg_cmp (m5.2 463 (Int32.toNatClampNeg (0))) (Int32.toInt64 v6)) = 0 then some m5 else none) else some m5 else none))) else (fX12_part m2 444 (xs (Int32.toNatClampNeg (i + 1))) (xs (Int32.toNatClampNeg (i + 2))) (xs (Int32.toNatClampNeg (i + 3))) 1).bind (fun q => dP2 q (fun v11 m10 => (fX12_thrown m10 444).bind (fun v13 => if v13 = v3 then if v3 = 0 then dg (dIx 0 (dL 463)) (if (lg_cmp (m10.2 463 (Int32.toNatClampNeg (0))) (Int32.toInt64 v11)) = 0 then some m10 else none) else some m10 else none))))))))) else (fL_part m 0 (xs (Int32.toNatClampNeg (i + 1))) (xs (Int32.toNatClampNeg (i + 2))) (xs (Int32.toNatClampNeg (i + 3))) 1 463).bind (fun q => dP2 q (fun v16 m15 => dg (dIx (i + 1) nL) (dg (dIx (i + 2) nL) (dg (dIx (i + 3) nL) (dg (dIx (i + 4) nL) (if (xs (Int32.toNatClampNeg (i + 4))) = 0 then (fX12_part m15 444 (xs (Int32.toNatClampNeg (i + 1))) (xs (Int32.toNatClampNeg (i + 2))) (xs (Int32.toNatClampNeg (i + 3))) 0).bind (fun q => dP2 q (fun v19 m18 => (fX12_thrown m18 444).bind (fun v21 => if v21 = v16 then if v16 = 0 then dg (dIx 0 (dL 463)) (if (lg_cmp (m18.2 463 (Int32.toNatClampNeg (0))) (Int32.toInt64 v19)) = 0 then some m18 else none) else some m18 else none))) else (fX12_part m15 444 (xs (Int32.toNatClampNeg (i + 1))) (xs (Int32.toNatClampNeg (i + 2))) (xs (Int32.toNatClampNeg (i + 3))) 1).bind (fun q => dP2 q (fun v24 m23 => (fX12_thrown m23 444).bind (fun v26 => if v26 = v16 then if v16 = 0 then dg (dIx 0 (dL 463)) (if (lg_cmp (m23.2 463 (Int32.toNatClampNeg (0))) (Int32.toInt64 v24)) = 0 then some m23 else none) else some m23 else none)))))))))))))
set_option maxHeartbeats 4000000 in
set_option maxRecDepth 100000 in
theorem kLaw_7 {p : Program} {l : Launch} {e : Env} {s : State} {mth : MethodId} {below : List Frame} {meth : Method} {c : Code} {b nL : Nat} {xs : Nat → Int32} {g : dG} {Q : State → Prop} {H : Heap} {locs : List Loc} {cells slots : Nat} {ls : Array Slot} {i : Int32} {m m9 : dM} (hst : l.stackTraces = false) (S : CallFix p mth c cL_law 8 s #[Value.ref b] wsL_law RL) (hX : va_X b nL xs s s.heap) (hbl : b < s.heap.size) (hbA : ¬ dA g b) (hE : dEnv g s) (hR : cells + 6 ≤ room_1.cells ∧ slots + 36 ≤ room_1.slots) (h : fLaw_7 xs nL i m = some m9) (hP : va_P g.1 vwCl (dws g m) H) (hS : va_S (dA g) s.heap H locs) (hl : lv_has ls 8 [(4, .int i), (0, .ref b), (1, .ref (dad g 0)), (2, .ref (dad g 444)), (3, .ref (dad g 463))])
    (kk : ∀ (H : Heap) (locs : List Loc) (ls : Array Slot) (cells2 slots2 : Nat), cells2 ≤ cells + 6 → slots2 ≤ slots + 36 → va_P g.1 vwCl (dws g m9) H → va_S (dA g) s.heap H locs → lv_has ls 8 [(4, .int i), (0, .ref b), (1, .ref (dad g 0)), (2, .ref (dad g 444)), (3, .ref (dad g 463))] → W p l e room_1 s mth #[Value.ref b] below meth c H locs cells2 slots2 Q (F0 mth 1873 ls [])) : W p l e room_1 s mth #[Value.ref b] below meth c H locs cells slots Q (F0 mth 695 ls []) := by
  obtain ⟨hR1, hR2⟩ := hR
  unfold fLaw_7 at h
  refine lv_aload_n S.1 S.2.1 dL_law_695 rfl (lv_at hl 2 rfl) ?_
  refine lv_aload_n S.1 S.2.1 dL_law_696 rfl (lv_at hl 1 rfl) ?_
  refine lv_iload S.1 S.2.1 dL_law_697 (lv_at hl 0 rfl) ?_
  refine lv_iconst (v := 1) S.1 S.2.1 dL_law_699 (by decide) ?_
  refine lv_iadd S.1 S.2.1 dL_law_700 ?_
  obtain ⟨hi, h⟩ := d_g h
  refine va_sld S.1 S.2.1 hX hbl hbA hS (dIx_in hi) dL_law_701 ?_
  refine lv_aload_n S.1 S.2.1 dL_law_702 rfl (lv_at hl 1 rfl) ?_
  refine lv_iload S.1 S.2.1 dL_law_703 (lv_at hl 0 rfl) ?_
  refine lv_iconst (v := 2) S.1 S.2.1 dL_law_705 (by decide) ?_
  refine lv_iadd S.1 S.2.1 dL_law_706 ?_
  obtain ⟨hi, h⟩ := d_g h
  refine va_sld S.1 S.2.1 hX hbl hbA hS (dIx_in hi) dL_law_707 ?_
  refine lv_aload_n S.1 S.2.1 dL_law_708 rfl (lv_at hl 1 rfl) ?_
  refine lv_iload S.1 S.2.1 dL_law_709 (lv_at hl 0 rfl) ?_
  refine lv_iconst (v := 3) S.1 S.2.1 dL_law_711 (by decide) ?_
  refine lv_iadd S.1 S.2.1 dL_law_712 ?_
  obtain ⟨hi, h⟩ := d_g h
  refine va_sld S.1 S.2.1 hX hbl hbA hS (dIx_in hi) dL_law_713 ?_
  refine lv_aload_n S.1 S.2.1 dL_law_714 rfl (lv_at hl 1 rfl) ?_
  refine lv_iload S.1 S.2.1 dL_law_715 (lv_at hl 0 rfl) ?_
  refine lv_iconst (v := 4) S.1 S.2.1 dL_law_717 (by decide) ?_
  refine lv_iadd S.1 S.2.1 dL_law_718 ?_
  obtain ⟨hi, h⟩ := d_g h
  refine va_sld S.1 S.2.1 hX hbl hbA hS (dIx_in hi) dL_law_719 ?_
  refine lv_if_eq (tgt := 727) S.1 S.2.1 dL_law_720 (by decide) (fun cq => ?_) (fun cq => ?_)
  · have h := d_t cq h
    refine lv_iconst (v := 0) S.1 S.2.1 dL_law_727 (by decide) ?_
    refine lv_aload_n S.1 S.2.1 dL_law_728 rfl (lv_at hl 4 rfl) ?_
    obtain ⟨⟨v3, m2⟩, hc1, h⟩ := d_b h
    have h := d_p2 h
    refine dLri (vx_runSX (As := [.ref (dad g 0), .int (xs (Int32.toNatClampNeg (i + 1))), .int (xs (Int32.toNatClampNeg (i + 2))), .int (xs (Int32.toNatClampNeg (i + 3))), .int 0, .ref (dad g 463)]) (rest := []) S (kL_part l g hst hc1) (vx_cwSW 6 S.2.2.2.2 gL_law_L_part rfl rfl rfl ynL_part ⟨(Nat.le_of_ble_eq_true rfl), (Nat.le_of_ble_eq_true rfl)⟩) (dpS hE hP hS) rfl rfl hl.1 rfl (lv_room (Nat.le_of_ble_eq_true rfl)) dL_law_729 ⟨by omega, by omega⟩) hS (fun H locs hP hS => ?_)
    refine lv_istore (lv' := [(5, .int v3), (4, .int i), (0, .ref b), (1, .ref (dad g 0)), (2, .ref (dad g 444)), (3, .ref (dad g 463))]) S.1 S.2.1 dL_law_732 hl (by decide) rfl (fun ls hl => ?_)
    refine lv_aload_n S.1 S.2.1 dL_law_734 rfl (lv_at hl 4 rfl) ?_
    refine lv_aload_n S.1 S.2.1 dL_law_735 rfl (lv_at hl 2 rfl) ?_
    refine lv_iload S.1 S.2.1 dL_law_736 (lv_at hl 1 rfl) ?_
    refine lv_iconst (v := 1) S.1 S.2.1 dL_law_738 (by decide) ?_
    refine lv_iadd S.1 S.2.1 dL_law_739 ?_
    obtain ⟨hi, h⟩ := d_g h
    refine va_sld S.1 S.2.1 hX hbl hbA hS (dIx_in hi) dL_law_740 ?_
    refine lv_aload_n S.1 S.2.1 dL_law_741 rfl (lv_at hl 2 rfl) ?_
    refine lv_iload S.1 S.2.1 dL_law_742 (lv_at hl 1 rfl) ?_
    refine lv_iconst (v := 2) S.1 S.2.1 dL_law_744 (by decide) ?_
    refine lv_iadd S.1 S.2.1 dL_law_745 ?_
    obtain ⟨hi, h⟩ := d_g h
    refine va_sld S.1 S.2.1 hX hbl hbA hS (dIx_in hi) dL_law_746 ?_
    refine lv_aload_n S.1 S.2.1 dL_law_747 rfl (lv_at hl 2 rfl) ?_
    refine lv_iload S.1 S.2.1 dL_law_748 (lv_at hl 1 rfl) ?_
    refine lv_iconst (v := 3) S.1 S.2.1 dL_law_750 (by decide) ?_
    refine lv_iadd S.1 S.2.1 dL_law_751 ?_
    obtain ⟨hi, h⟩ := d_g h
    refine va_sld S.1 S.2.1 hX hbl hbA hS (dIx_in hi) dL_law_752 ?_
    refine lv_aload_n S.1 S.2.1 dL_law_753 rfl (lv_at hl 2 rfl) ?_
    refine lv_iload S.1 S.2.1 dL_law_754 (lv_at hl 1 rfl) ?_
    refine lv_iconst (v := 4) S.1 S.2.1 dL_law_756 (by decide) ?_
    refine lv_iadd S.1 S.2.1 dL_law_757 ?_
    obtain ⟨hi, h⟩ := d_g h
    refine va_sld S.1 S.2.1 hX hbl hbA hS (dIx_in hi) dL_law_758 ?_
    refine lv_if_eq (tgt := 766) S.1 S.2.1 dL_law_759 (by decide) (fun cq => ?_) (fun cq => ?_)
    · have h := d_t cq h
      refine lv_iconst (v := 0) S.1 S.2.1 dL_law_766 (by decide) ?_
      obtain ⟨⟨v6, m5⟩, hc4, h⟩ := d_b h
      have h := d_p2 h
      refine dri (va_runV (As := [.int (xs (Int32.toNatClampNeg (i + 1))), .int (xs (Int32.toNatClampNeg (i + 2))), .int (xs (Int32.toNatClampNeg (i + 3))), .int 0]) (rest := []) S (kX12_part l g hc4) (cwV 4 S.2.2.2.2 gL_law_X12_part rfl rfl rfl ynX12_part ⟨Nat.le_of_ble_eq_true rfl, Nat.le_of_ble_eq_true rfl⟩) (dpV hE hP hS (ci := 12) rfl (dat13 dk_444)) rfl rfl hl.1 rfl (lv_room (Nat.le_of_ble_eq_true rfl)) dL_law_767 ⟨by omega, by omega⟩) hS (fun H locs hP hS => ?_)
      refine lv_istore (lv' := [(6, .int v6), (5, .int v3), (4, .int i), (0, .ref b), (1, .ref (dad g 0)), (2, .ref (dad g 444)), (3, .ref (dad g 463))]) S.1 S.2.1 dL_law_770 hl (by decide) rfl (fun ls hl => ?_)
      refine lv_aload_n S.1 S.2.1 dL_law_772 rfl (lv_at hl 5 rfl) ?_
      obtain ⟨v8, hc7, h⟩ := d_b h
      refine dri (va_runV (As := []) (rest := []) S (kX12_thrown l g hc7) (cwV 0 S.2.2.2.2 gL_law_X12_thrown rfl rfl rfl ynX12_thrown ⟨Nat.le_of_ble_eq_true rfl, Nat.le_of_ble_eq_true rfl⟩) (dpV hE hP hS (ci := 12) rfl (dat13 dk_444)) rfl rfl hl.1 rfl (lv_room (Nat.le_of_ble_eq_true rfl)) dL_law_773 ⟨by omega, by omega⟩) hS (fun H locs hP hS => ?_)
      refine lv_iload S.1 S.2.1 dL_law_776 (lv_at hl 1 rfl) ?_
      refine lv_icmp_eq (tgt := 783) S.1 S.2.1 dL_law_778 (by decide) (fun cq => ?_) (fun cq => ?_)
      · have h := d_t cq h
        refine lv_iload S.1 S.2.1 dL_law_783 (lv_at hl 1 rfl) ?_
        refine lv_if_ne (tgt := 800) S.1 S.2.1 dL_law_785 (by decide) (fun cq => ?_) (fun cq => ?_)
        · have h := d_f cq h
          refine lv_goto (tgt := 1873) S.1 S.2.1 dL_law_800 (by decide) ?_
          obtain rfl := Option.some.inj h
          exact kk H locs ls _ _ (by omega) (by omega) hP hS (lv_sub hl [2, 3, 4, 5, 6] rfl)
        · have h := d_t cq h
          refine lv_aload_n S.1 S.2.1 dL_law_788 rfl (lv_at hl 6 rfl) ?_
          refine lv_iconst (v := 0) S.1 S.2.1 dL_law_789 (by decide) ?_
          obtain ⟨hi, h⟩ := d_g h
          refine d_lald S hE hP dk_463 hi dL_law_790 ?_
          refine lv_iload S.1 S.2.1 dL_law_791 (lv_at hl 0 rfl) ?_
          refine lv_i2l S.1 S.2.1 dL_law_793 rfl ?_
          refine W.lcmp S.1 S.2.1 dL_law_794 ?_
          refine lv_if_eq (tgt := 800) S.1 S.2.1 dL_law_795 (by decide) (fun cq => ?_) (fun cq => ?_)
          · have h := d_t cq h
            refine lv_goto (tgt := 1873) S.1 S.2.1 dL_law_800 (by decide) ?_
            obtain rfl := Option.some.inj h
            exact kk H locs ls _ _ (by omega) (by omega) hP hS (lv_sub hl [2, 3, 4, 5, 6] rfl)
          · have h := d_f cq h
            cases h
      · have h := d_f cq h
        cases h
    · have h := d_f cq h
      refine lv_iconst (v := 1) S.1 S.2.1 dL_law_762 (by decide) ?_
      refine lv_goto (tgt := 767) S.1 S.2.1 dL_law_763 (by decide) ?_
      obtain ⟨⟨v11, m10⟩, hc9, h⟩ := d_b h
      have h := d_p2 h
      refine dri (va_runV (As := [.int (xs (Int32.toNatClampNeg (i + 1))), .int (xs (Int32.toNatClampNeg (i + 2))), .int (xs (Int32.toNatClampNeg (i + 3))), .int 1]) (rest := []) S (kX12_part l g hc9) (cwV 4 S.2.2.2.2 gL_law_X12_part rfl rfl rfl ynX12_part ⟨Nat.le_of_ble_eq_true rfl, Nat.le_of_ble_eq_true rfl⟩) (dpV hE hP hS (ci := 12) rfl (dat13 dk_444)) rfl rfl hl.1 rfl (lv_room (Nat.le_of_ble_eq_true rfl)) dL_law_767 ⟨by omega, by omega⟩) hS (fun H locs hP hS => ?_)
      refine lv_istore (lv' := [(6, .int v11), (5, .int v3), (4, .int i), (0, .ref b), (1, .ref (dad g 0)), (2, .ref (dad g 444)), (3, .ref (dad g 463))]) S.1 S.2.1 dL_law_770 hl (by decide) rfl (fun ls hl => ?_)
      refine lv_aload_n S.1 S.2.1 dL_law_772 rfl (lv_at hl 5 rfl) ?_
      obtain ⟨v13, hc12, h⟩ := d_b h
      refine dri (va_runV (As := []) (rest := []) S (kX12_thrown l g hc12) (cwV 0 S.2.2.2.2 gL_law_X12_thrown rfl rfl rfl ynX12_thrown ⟨Nat.le_of_ble_eq_true rfl, Nat.le_of_ble_eq_true rfl⟩) (dpV hE hP hS (ci := 12) rfl (dat13 dk_444)) rfl rfl hl.1 rfl (lv_room (Nat.le_of_ble_eq_true rfl)) dL_law_773 ⟨by omega, by omega⟩) hS (fun H locs hP hS => ?_)
      refine lv_iload S.1 S.2.1 dL_law_776 (lv_at hl 1 rfl) ?_
      refine lv_icmp_eq (tgt := 783) S.1 S.2.1 dL_law_778 (by decide) (fun cq => ?_) (fun cq => ?_)
      · have h := d_t cq h
        refine lv_iload S.1 S.2.1 dL_law_783 (lv_at hl 1 rfl) ?_
        refine lv_if_ne (tgt := 800) S.1 S.2.1 dL_law_785 (by decide) (fun cq => ?_) (fun cq => ?_)
        · have h := d_f cq h
          refine lv_goto (tgt := 1873) S.1 S.2.1 dL_law_800 (by decide) ?_
          obtain rfl := Option.some.inj h
          exact kk H locs ls _ _ (by omega) (by omega) hP hS (lv_sub hl [2, 3, 4, 5, 6] rfl)
        · have h := d_t cq h
          refine lv_aload_n S.1 S.2.1 dL_law_788 rfl (lv_at hl 6 rfl) ?_
          refine lv_iconst (v := 0) S.1 S.2.1 dL_law_789 (by decide) ?_
          obtain ⟨hi, h⟩ := d_g h
          refine d_lald S hE hP dk_463 hi dL_law_790 ?_
          refine lv_iload S.1 S.2.1 dL_law_791 (lv_at hl 0 rfl) ?_
          refine lv_i2l S.1 S.2.1 dL_law_793 rfl ?_
          refine W.lcmp S.1 S.2.1 dL_law_794 ?_
          refine lv_if_eq (tgt := 800) S.1 S.2.1 dL_law_795 (by decide) (fun cq => ?_) (fun cq => ?_)
          · have h := d_t cq h
            refine lv_goto (tgt := 1873) S.1 S.2.1 dL_law_800 (by decide) ?_
            obtain rfl := Option.some.inj h
            exact kk H locs ls _ _ (by omega) (by omega) hP hS (lv_sub hl [2, 3, 4, 5, 6] rfl)
          · have h := d_f cq h
            cases h
      · have h := d_f cq h
        cases h
  · have h := d_f cq h
    refine lv_iconst (v := 1) S.1 S.2.1 dL_law_723 (by decide) ?_
    refine lv_goto (tgt := 728) S.1 S.2.1 dL_law_724 (by decide) ?_
    refine lv_aload_n S.1 S.2.1 dL_law_728 rfl (lv_at hl 4 rfl) ?_
    obtain ⟨⟨v16, m15⟩, hc14, h⟩ := d_b h
    have h := d_p2 h
    refine dLri (vx_runSX (As := [.ref (dad g 0), .int (xs (Int32.toNatClampNeg (i + 1))), .int (xs (Int32.toNatClampNeg (i + 2))), .int (xs (Int32.toNatClampNeg (i + 3))), .int 1, .ref (dad g 463)]) (rest := []) S (kL_part l g hst hc14) (vx_cwSW 6 S.2.2.2.2 gL_law_L_part rfl rfl rfl ynL_part ⟨(Nat.le_of_ble_eq_true rfl), (Nat.le_of_ble_eq_true rfl)⟩) (dpS hE hP hS) rfl rfl hl.1 rfl (lv_room (Nat.le_of_ble_eq_true rfl)) dL_law_729 ⟨by omega, by omega⟩) hS (fun H locs hP hS => ?_)
    refine lv_istore (lv' := [(5, .int v16), (4, .int i), (0, .ref b), (1, .ref (dad g 0)), (2, .ref (dad g 444)), (3, .ref (dad g 463))]) S.1 S.2.1 dL_law_732 hl (by decide) rfl (fun ls hl => ?_)
    refine lv_aload_n S.1 S.2.1 dL_law_734 rfl (lv_at hl 4 rfl) ?_
    refine lv_aload_n S.1 S.2.1 dL_law_735 rfl (lv_at hl 2 rfl) ?_
    refine lv_iload S.1 S.2.1 dL_law_736 (lv_at hl 1 rfl) ?_
    refine lv_iconst (v := 1) S.1 S.2.1 dL_law_738 (by decide) ?_
    refine lv_iadd S.1 S.2.1 dL_law_739 ?_
    obtain ⟨hi, h⟩ := d_g h
    refine va_sld S.1 S.2.1 hX hbl hbA hS (dIx_in hi) dL_law_740 ?_
    refine lv_aload_n S.1 S.2.1 dL_law_741 rfl (lv_at hl 2 rfl) ?_
    refine lv_iload S.1 S.2.1 dL_law_742 (lv_at hl 1 rfl) ?_
    refine lv_iconst (v := 2) S.1 S.2.1 dL_law_744 (by decide) ?_
    refine lv_iadd S.1 S.2.1 dL_law_745 ?_
    obtain ⟨hi, h⟩ := d_g h
    refine va_sld S.1 S.2.1 hX hbl hbA hS (dIx_in hi) dL_law_746 ?_
    refine lv_aload_n S.1 S.2.1 dL_law_747 rfl (lv_at hl 2 rfl) ?_
    refine lv_iload S.1 S.2.1 dL_law_748 (lv_at hl 1 rfl) ?_
    refine lv_iconst (v := 3) S.1 S.2.1 dL_law_750 (by decide) ?_
    refine lv_iadd S.1 S.2.1 dL_law_751 ?_
    obtain ⟨hi, h⟩ := d_g h
    refine va_sld S.1 S.2.1 hX hbl hbA hS (dIx_in hi) dL_law_752 ?_
    refine lv_aload_n S.1 S.2.1 dL_law_753 rfl (lv_at hl 2 rfl) ?_
    refine lv_iload S.1 S.2.1 dL_law_754 (lv_at hl 1 rfl) ?_
    refine lv_iconst (v := 4) S.1 S.2.1 dL_law_756 (by decide) ?_
    refine lv_iadd S.1 S.2.1 dL_law_757 ?_
    obtain ⟨hi, h⟩ := d_g h
    refine va_sld S.1 S.2.1 hX hbl hbA hS (dIx_in hi) dL_law_758 ?_
    refine lv_if_eq (tgt := 766) S.1 S.2.1 dL_law_759 (by decide) (fun cq => ?_) (fun cq => ?_)
    · have h := d_t cq h
      refine lv_iconst (v := 0) S.1 S.2.1 dL_law_766 (by decide) ?_
      obtain ⟨⟨v19, m18⟩, hc17, h⟩ := d_b h
      have h := d_p2 h
      refine dri (va_runV (As := [.int (xs (Int32.toNatClampNeg (i + 1))), .int (xs (Int32.toNatClampNeg (i + 2))), .int (xs (Int32.toNatClampNeg (i + 3))), .int 0]) (rest := []) S (kX12_part l g hc17) (cwV 4 S.2.2.2.2 gL_law_X12_part rfl rfl rfl ynX12_part ⟨Nat.le_of_ble_eq_true rfl, Nat.le_of_ble_eq_true rfl⟩) (dpV hE hP hS (ci := 12) rfl (dat13 dk_444)) rfl rfl hl.1 rfl (lv_room (Nat.le_of_ble_eq_true rfl)) dL_law_767 ⟨by omega, by omega⟩) hS (fun H locs hP hS => ?_)
      refine lv_istore (lv' := [(6, .int v19), (5, .int v16), (4, .int i), (0, .ref b), (1, .ref (dad g 0)), (2, .ref (dad g 444)), (3, .ref (dad g 463))]) S.1 S.2.1 dL_law_770 hl (by decide) rfl (fun ls hl => ?_)
      refine lv_aload_n S.1 S.2.1 dL_law_772 rfl (lv_at hl 5 rfl) ?_
      obtain ⟨v21, hc20, h⟩ := d_b h
      refine dri (va_runV (As := []) (rest := []) S (kX12_thrown l g hc20) (cwV 0 S.2.2.2.2 gL_law_X12_thrown rfl rfl rfl ynX12_thrown ⟨Nat.le_of_ble_eq_true rfl, Nat.le_of_ble_eq_true rfl⟩) (dpV hE hP hS (ci := 12) rfl (dat13 dk_444)) rfl rfl hl.1 rfl (lv_room (Nat.le_of_ble_eq_true rfl)) dL_law_773 ⟨by omega, by omega⟩) hS (fun H locs hP hS => ?_)
      refine lv_iload S.1 S.2.1 dL_law_776 (lv_at hl 1 rfl) ?_
      refine lv_icmp_eq (tgt := 783) S.1 S.2.1 dL_law_778 (by decide) (fun cq => ?_) (fun cq => ?_)
      · have h := d_t cq h
        refine lv_iload S.1 S.2.1 dL_law_783 (lv_at hl 1 rfl) ?_
        refine lv_if_ne (tgt := 800) S.1 S.2.1 dL_law_785 (by decide) (fun cq => ?_) (fun cq => ?_)
        · have h := d_f cq h
          refine lv_goto (tgt := 1873) S.1 S.2.1 dL_law_800 (by decide) ?_
          obtain rfl := Option.some.inj h
          exact kk H locs ls _ _ (by omega) (by omega) hP hS (lv_sub hl [2, 3, 4, 5, 6] rfl)
        · have h := d_t cq h
          refine lv_aload_n S.1 S.2.1 dL_law_788 rfl (lv_at hl 6 rfl) ?_
          refine lv_iconst (v := 0) S.1 S.2.1 dL_law_789 (by decide) ?_
          obtain ⟨hi, h⟩ := d_g h
          refine d_lald S hE hP dk_463 hi dL_law_790 ?_
          refine lv_iload S.1 S.2.1 dL_law_791 (lv_at hl 0 rfl) ?_
          refine lv_i2l S.1 S.2.1 dL_law_793 rfl ?_
          refine W.lcmp S.1 S.2.1 dL_law_794 ?_
          refine lv_if_eq (tgt := 800) S.1 S.2.1 dL_law_795 (by decide) (fun cq => ?_) (fun cq => ?_)
          · have h := d_t cq h
            refine lv_goto (tgt := 1873) S.1 S.2.1 dL_law_800 (by decide) ?_
            obtain rfl := Option.some.inj h
            exact kk H locs ls _ _ (by omega) (by omega) hP hS (lv_sub hl [2, 3, 4, 5, 6] rfl)
          · have h := d_f cq h
            cases h
      · have h := d_f cq h
        cases h
    · have h := d_f cq h
      refine lv_iconst (v := 1) S.1 S.2.1 dL_law_762 (by decide) ?_
      refine lv_goto (tgt := 767) S.1 S.2.1 dL_law_763 (by decide) ?_
      obtain ⟨⟨v24, m23⟩, hc22, h⟩ := d_b h
      have h := d_p2 h
      refine dri (va_runV (As := [.int (xs (Int32.toNatClampNeg (i + 1))), .int (xs (Int32.toNatClampNeg (i + 2))), .int (xs (Int32.toNatClampNeg (i + 3))), .int 1]) (rest := []) S (kX12_part l g hc22) (cwV 4 S.2.2.2.2 gL_law_X12_part rfl rfl rfl ynX12_part ⟨Nat.le_of_ble_eq_true rfl, Nat.le_of_ble_eq_true rfl⟩) (dpV hE hP hS (ci := 12) rfl (dat13 dk_444)) rfl rfl hl.1 rfl (lv_room (Nat.le_of_ble_eq_true rfl)) dL_law_767 ⟨by omega, by omega⟩) hS (fun H locs hP hS => ?_)
      refine lv_istore (lv' := [(6, .int v24), (5, .int v16), (4, .int i), (0, .ref b), (1, .ref (dad g 0)), (2, .ref (dad g 444)), (3, .ref (dad g 463))]) S.1 S.2.1 dL_law_770 hl (by decide) rfl (fun ls hl => ?_)
      refine lv_aload_n S.1 S.2.1 dL_law_772 rfl (lv_at hl 5 rfl) ?_
      obtain ⟨v26, hc25, h⟩ := d_b h
      refine dri (va_runV (As := []) (rest := []) S (kX12_thrown l g hc25) (cwV 0 S.2.2.2.2 gL_law_X12_thrown rfl rfl rfl ynX12_thrown ⟨Nat.le_of_ble_eq_true rfl, Nat.le_of_ble_eq_true rfl⟩) (dpV hE hP hS (ci := 12) rfl (dat13 dk_444)) rfl rfl hl.1 rfl (lv_room (Nat.le_of_ble_eq_true rfl)) dL_law_773 ⟨by omega, by omega⟩) hS (fun H locs hP hS => ?_)
      refine lv_iload S.1 S.2.1 dL_law_776 (lv_at hl 1 rfl) ?_
      refine lv_icmp_eq (tgt := 783) S.1 S.2.1 dL_law_778 (by decide) (fun cq => ?_) (fun cq => ?_)
      · have h := d_t cq h
        refine lv_iload S.1 S.2.1 dL_law_783 (lv_at hl 1 rfl) ?_
        refine lv_if_ne (tgt := 800) S.1 S.2.1 dL_law_785 (by decide) (fun cq => ?_) (fun cq => ?_)
        · have h := d_f cq h
          refine lv_goto (tgt := 1873) S.1 S.2.1 dL_law_800 (by decide) ?_
          obtain rfl := Option.some.inj h
          exact kk H locs ls _ _ (by omega) (by omega) hP hS (lv_sub hl [2, 3, 4, 5, 6] rfl)
        · have h := d_t cq h
          refine lv_aload_n S.1 S.2.1 dL_law_788 rfl (lv_at hl 6 rfl) ?_
          refine lv_iconst (v := 0) S.1 S.2.1 dL_law_789 (by decide) ?_
          obtain ⟨hi, h⟩ := d_g h
          refine d_lald S hE hP dk_463 hi dL_law_790 ?_
          refine lv_iload S.1 S.2.1 dL_law_791 (lv_at hl 0 rfl) ?_
          refine lv_i2l S.1 S.2.1 dL_law_793 rfl ?_
          refine W.lcmp S.1 S.2.1 dL_law_794 ?_
          refine lv_if_eq (tgt := 800) S.1 S.2.1 dL_law_795 (by decide) (fun cq => ?_) (fun cq => ?_)
          · have h := d_t cq h
            refine lv_goto (tgt := 1873) S.1 S.2.1 dL_law_800 (by decide) ?_
            obtain rfl := Option.some.inj h
            exact kk H locs ls _ _ (by omega) (by omega) hP hS (lv_sub hl [2, 3, 4, 5, 6] rfl)
          · have h := d_f cq h
            cases h
      · have h := d_f cq h
        cases h
theorem dL_law_803 : decode cL_law 803 = .ok (.aload_n 1, 1) := by decide +kernel
theorem dL_law_804 : decode cL_law 804 = .ok (.aload_n 0, 1) := by decide +kernel
theorem dL_law_805 : decode cL_law 805 = .ok (.iload 4, 2) := by decide +kernel
theorem dL_law_807 : decode cL_law 807 = .ok (.iconst 1, 1) := by decide +kernel
theorem dL_law_808 : decode cL_law 808 = .ok (.iadd, 1) := by decide +kernel
theorem dL_law_809 : decode cL_law 809 = .ok (.iaload, 1) := by decide +kernel
theorem dL_law_810 : decode cL_law 810 = .ok (.aload_n 0, 1) := by decide +kernel
theorem dL_law_811 : decode cL_law 811 = .ok (.iload 4, 2) := by decide +kernel
theorem dL_law_813 : decode cL_law 813 = .ok (.iconst 2, 1) := by decide +kernel
theorem dL_law_814 : decode cL_law 814 = .ok (.iadd, 1) := by decide +kernel
theorem dL_law_815 : decode cL_law 815 = .ok (.iaload, 1) := by decide +kernel
theorem dL_law_816 : decode cL_law 816 = .ok (.aload_n 0, 1) := by decide +kernel
theorem dL_law_817 : decode cL_law 817 = .ok (.iload 4, 2) := by decide +kernel
theorem dL_law_819 : decode cL_law 819 = .ok (.iconst 3, 1) := by decide +kernel
theorem dL_law_820 : decode cL_law 820 = .ok (.iadd, 1) := by decide +kernel
theorem dL_law_821 : decode cL_law 821 = .ok (.iaload, 1) := by decide +kernel
theorem dL_law_822 : decode cL_law 822 = .ok (.aload_n 0, 1) := by decide +kernel
theorem dL_law_823 : decode cL_law 823 = .ok (.iload 4, 2) := by decide +kernel
theorem dL_law_825 : decode cL_law 825 = .ok (.iconst 4, 1) := by decide +kernel
theorem dL_law_826 : decode cL_law 826 = .ok (.iadd, 1) := by decide +kernel
theorem dL_law_827 : decode cL_law 827 = .ok (.iaload, 1) := by decide +kernel
theorem dL_law_828 : decode cL_law 828 = .ok (.aload_n 0, 1) := by decide +kernel
theorem dL_law_829 : decode cL_law 829 = .ok (.iload 4, 2) := by decide +kernel
theorem dL_law_831 : decode cL_law 831 = .ok (.iconst 5, 1) := by decide +kernel
theorem dL_law_832 : decode cL_law 832 = .ok (.iadd, 1) := by decide +kernel
theorem dL_law_833 : decode cL_law 833 = .ok (.iaload, 1) := by decide +kernel
theorem dL_law_834 : decode cL_law 834 = .ok (.ifCond .eq 7, 3) := by decide +kernel
theorem dL_law_837 : decode cL_law 837 = .ok (.iconst 1, 1) := by decide +kernel
theorem dL_law_838 : decode cL_law 838 = .ok (.goto 4, 3) := by decide +kernel
theorem dL_law_841 : decode cL_law 841 = .ok (.iconst 0, 1) := by decide +kernel
theorem dL_law_842 : decode cL_law 842 = .ok (.invokestatic 134, 3) := by decide +kernel
theorem dL_law_845 : decode cL_law 845 = .ok (.istore 5, 2) := by decide +kernel
theorem dL_law_847 : decode cL_law 847 = .ok (.aload_n 2, 1) := by decide +kernel
theorem dL_law_848 : decode cL_law 848 = .ok (.aload_n 0, 1) := by decide +kernel
theorem dL_law_849 : decode cL_law 849 = .ok (.iload 4, 2) := by decide +kernel
theorem dL_law_851 : decode cL_law 851 = .ok (.iconst 1, 1) := by decide +kernel
theorem dL_law_852 : decode cL_law 852 = .ok (.iadd, 1) := by decide +kernel
theorem dL_law_853 : decode cL_law 853 = .ok (.iaload, 1) := by decide +kernel
theorem dL_law_854 : decode cL_law 854 = .ok (.aload_n 0, 1) := by decide +kernel
theorem dL_law_855 : decode cL_law 855 = .ok (.iload 4, 2) := by decide +kernel
theorem dL_law_857 : decode cL_law 857 = .ok (.iconst 2, 1) := by decide +kernel
theorem dL_law_858 : decode cL_law 858 = .ok (.iadd, 1) := by decide +kernel
theorem dL_law_859 : decode cL_law 859 = .ok (.iaload, 1) := by decide +kernel
theorem dL_law_860 : decode cL_law 860 = .ok (.aload_n 0, 1) := by decide +kernel
theorem dL_law_861 : decode cL_law 861 = .ok (.iload 4, 2) := by decide +kernel
theorem dL_law_863 : decode cL_law 863 = .ok (.iconst 3, 1) := by decide +kernel
theorem dL_law_864 : decode cL_law 864 = .ok (.iadd, 1) := by decide +kernel
theorem dL_law_865 : decode cL_law 865 = .ok (.iaload, 1) := by decide +kernel
theorem dL_law_866 : decode cL_law 866 = .ok (.aload_n 0, 1) := by decide +kernel
theorem dL_law_867 : decode cL_law 867 = .ok (.iload 4, 2) := by decide +kernel
theorem dL_law_869 : decode cL_law 869 = .ok (.iconst 4, 1) := by decide +kernel
theorem dL_law_870 : decode cL_law 870 = .ok (.iadd, 1) := by decide +kernel
theorem dL_law_871 : decode cL_law 871 = .ok (.iaload, 1) := by decide +kernel
theorem dL_law_872 : decode cL_law 872 = .ok (.aload_n 0, 1) := by decide +kernel
theorem dL_law_873 : decode cL_law 873 = .ok (.iload 4, 2) := by decide +kernel
theorem dL_law_875 : decode cL_law 875 = .ok (.iconst 5, 1) := by decide +kernel
theorem dL_law_876 : decode cL_law 876 = .ok (.iadd, 1) := by decide +kernel
theorem dL_law_877 : decode cL_law 877 = .ok (.iaload, 1) := by decide +kernel
theorem dL_law_878 : decode cL_law 878 = .ok (.ifCond .eq 7, 3) := by decide +kernel
theorem dL_law_881 : decode cL_law 881 = .ok (.iconst 1, 1) := by decide +kernel
theorem dL_law_882 : decode cL_law 882 = .ok (.goto 4, 3) := by decide +kernel
theorem dL_law_885 : decode cL_law 885 = .ok (.iconst 0, 1) := by decide +kernel
theorem dL_law_886 : decode cL_law 886 = .ok (.invokevirtual 137, 3) := by decide +kernel
theorem dL_law_889 : decode cL_law 889 = .ok (.aload_n 2, 1) := by decide +kernel
theorem dL_law_890 : decode cL_law 890 = .ok (.invokevirtual 104, 3) := by decide +kernel
theorem dL_law_893 : decode cL_law 893 = .ok (.iload 5, 2) := by decide +kernel
theorem dL_law_895 : decode cL_law 895 = .ok (.if_icmp .eq 5, 3) := by decide +kernel
theorem dL_law_898 : decode cL_law 898 = .ok (.iconst 0, 1) := by decide +kernel
theorem dL_law_899 : decode cL_law 899 = .ok (.ireturn, 1) := by decide +kernel
theorem dL_law_900 : decode cL_law 900 = .ok (.goto 973, 3) := by decide +kernel
def fLaw_8 (xs : Nat → Int32) (nL : Nat) (i : Int32) (m : dM) : Option dM := dg (dIx (i + 1) nL) (dg (dIx (i + 2) nL) (dg (dIx (i + 3) nL) (dg (dIx (i + 4) nL) (dg (dIx (i + 5) nL) (if (xs (Int32.toNatClampNeg (i + 5))) = 0 then (fL_change m 0 (xs (Int32.toNatClampNeg (i + 1))) (xs (Int32.toNatClampNeg (i + 2))) (xs (Int32.toNatClampNeg (i + 3))) (xs (Int32.toNatClampNeg (i + 4))) 0).bind (fun q => dP2 q (fun v3 m2 => dg (dIx (i + 1) nL) (dg (dIx (i + 2) nL) (dg (dIx (i + 3) nL) (dg (dIx (i + 4) nL) (dg (dIx (i + 5) nL) (if (xs (Int32.toNatClampNeg (i + 5))) = 0 then (fX12_change m2 444 (xs (Int32.toNatClampNeg (i + 1))) (xs (Int32.toNatClampNeg (i + 2))) (xs (Int32.toNatClampNeg (i + 3))) (xs (Int32.toNatClampNeg (i + 4))) 0).bind (fun m5 => (fX12_thrown m5 444).bind (fun v7 => if v7 = v3 then some m5 else none)) else (fX12_change m2 444 (xs (Int32.toNatClampNeg (i + 1))) (xs (Int32.toNatClampNeg (i + 2))) (xs (Int32.toNatClampNeg (i + 3))) (xs (Int32.toNatClampNeg (i + 4))) 1).bind (fun m9 => (fX12_thrown m9 444).bind (fun v11 => if v11 = v3 then some m9 else none))))))))) else (fL_change m 0 (xs (Int32.toNatClampNeg (i + 1))) (xs (Int32.toNatClampNeg (i + 2))) (xs (Int32.toNatClampNeg (i + 3))) (xs (Int32.toNatClampNeg (i + 4))) 1).bind (fun q => dP2 q (fun v14 m13 => dg (dIx (i + 1) nL) (dg (dIx (i + 2) nL) (dg (dIx (i + 3) nL) (dg (dIx (i + 4) nL) (dg (dIx (i + 5) nL) (if (xs (Int32.toNatClampNeg (i + 5))) = 0 then (fX12_change m13 444 (xs (Int32.toNatClampNeg (i + 1))) (xs (Int32.toNatClampNeg (i + 2))) (xs (Int32.toNatClampNeg (i + 3))) (xs (Int32.toNatClampNeg (i + 4))) 0).bind (fun m16 => (fX12_thrown m16 444).bind (fun v18 => if v18 = v14 then some m16 else none)) else (fX12_change m13 444 (xs (Int32.toNatClampNeg (i + 1))) (xs (Int32.toNatClampNeg (i + 2))) (xs (Int32.toNatClampNeg (i + 3))) (xs (Int32.toNatClampNeg (i + 4))) 1).bind (fun m20 => (fX12_thrown m20 444).bind (fun v22 => if v22 = v14 then some m20 else none))))))))))))))
set_option maxHeartbeats 4000000 in
set_option maxRecDepth 100000 in
theorem kLaw_8 {p : Program} {l : Launch} {e : Env} {s : State} {mth : MethodId} {below : List Frame} {meth : Method} {c : Code} {b nL : Nat} {xs : Nat → Int32} {g : dG} {Q : State → Prop} {H : Heap} {locs : List Loc} {cells slots : Nat} {ls : Array Slot} {i : Int32} {m m9 : dM} (hst : l.stackTraces = false) (S : CallFix p mth c cL_law 8 s #[Value.ref b] wsL_law RL) (hX : va_X b nL xs s s.heap) (hbl : b < s.heap.size) (hbA : ¬ dA g b) (hE : dEnv g s) (hR : cells + 6 ≤ room_1.cells ∧ slots + 36 ≤ room_1.slots) (h : fLaw_8 xs nL i m = some m9) (hP : va_P g.1 vwCl (dws g m) H) (hS : va_S (dA g) s.heap H locs) (hl : lv_has ls 8 [(4, .int i), (0, .ref b), (1, .ref (dad g 0)), (2, .ref (dad g 444)), (3, .ref (dad g 463))])
    (kk : ∀ (H : Heap) (locs : List Loc) (ls : Array Slot) (cells2 slots2 : Nat), cells2 ≤ cells + 6 → slots2 ≤ slots + 36 → va_P g.1 vwCl (dws g m9) H → va_S (dA g) s.heap H locs → lv_has ls 8 [(4, .int i), (0, .ref b), (1, .ref (dad g 0)), (2, .ref (dad g 444)), (3, .ref (dad g 463))] → W p l e room_1 s mth #[Value.ref b] below meth c H locs cells2 slots2 Q (F0 mth 1873 ls [])) : W p l e room_1 s mth #[Value.ref b] below meth c H locs cells slots Q (F0 mth 803 ls []) := by
  obtain ⟨hR1, hR2⟩ := hR
  unfold fLaw_8 at h
  refine lv_aload_n S.1 S.2.1 dL_law_803 rfl (lv_at hl 2 rfl) ?_
  refine lv_aload_n S.1 S.2.1 dL_law_804 rfl (lv_at hl 1 rfl) ?_
  refine lv_iload S.1 S.2.1 dL_law_805 (lv_at hl 0 rfl) ?_
  refine lv_iconst (v := 1) S.1 S.2.1 dL_law_807 (by decide) ?_
  refine lv_iadd S.1 S.2.1 dL_law_808 ?_
  obtain ⟨hi, h⟩ := d_g h
  refine va_sld S.1 S.2.1 hX hbl hbA hS (dIx_in hi) dL_law_809 ?_
  refine lv_aload_n S.1 S.2.1 dL_law_810 rfl (lv_at hl 1 rfl) ?_
  refine lv_iload S.1 S.2.1 dL_law_811 (lv_at hl 0 rfl) ?_
  refine lv_iconst (v := 2) S.1 S.2.1 dL_law_813 (by decide) ?_
  refine lv_iadd S.1 S.2.1 dL_law_814 ?_
  obtain ⟨hi, h⟩ := d_g h
  refine va_sld S.1 S.2.1 hX hbl hbA hS (dIx_in hi) dL_law_815 ?_
  refine lv_aload_n S.1 S.2.1 dL_law_816 rfl (lv_at hl 1 rfl) ?_
  refine lv_iload S.1 S.2.1 dL_law_817 (lv_at hl 0 rfl) ?_
  refine lv_iconst (v := 3) S.1 S.2.1 dL_law_819 (by decide) ?_
  refine lv_iadd S.1 S.2.1 dL_law_820 ?_
  obtain ⟨hi, h⟩ := d_g h
  refine va_sld S.1 S.2.1 hX hbl hbA hS (dIx_in hi) dL_law_821 ?_
  refine lv_aload_n S.1 S.2.1 dL_law_822 rfl (lv_at hl 1 rfl) ?_
  refine lv_iload S.1 S.2.1 dL_law_823 (lv_at hl 0 rfl) ?_
  refine lv_iconst (v := 4) S.1 S.2.1 dL_law_825 (by decide) ?_
  refine lv_iadd S.1 S.2.1 dL_law_826 ?_
  obtain ⟨hi, h⟩ := d_g h
  refine va_sld S.1 S.2.1 hX hbl hbA hS (dIx_in hi) dL_law_827 ?_
  refine lv_aload_n S.1 S.2.1 dL_law_828 rfl (lv_at hl 1 rfl) ?_
  refine lv_iload S.1 S.2.1 dL_law_829 (lv_at hl 0 rfl) ?_
  refine lv_iconst (v := 5) S.1 S.2.1 dL_law_831 (by decide) ?_
  refine lv_iadd S.1 S.2.1 dL_law_832 ?_
  obtain ⟨hi, h⟩ := d_g h
  refine va_sld S.1 S.2.1 hX hbl hbA hS (dIx_in hi) dL_law_833 ?_
  refine lv_if_eq (tgt := 841) S.1 S.2.1 dL_law_834 (by decide) (fun cq => ?_) (fun cq => ?_)
  · have h := d_t cq h
    refine lv_iconst (v := 0) S.1 S.2.1 dL_law_841 (by decide) ?_
    obtain ⟨⟨v3, m2⟩, hc1, h⟩ := d_b h
    have h := d_p2 h
    refine dLri (vx_runSX (As := [.ref (dad g 0), .int (xs (Int32.toNatClampNeg (i + 1))), .int (xs (Int32.toNatClampNeg (i + 2))), .int (xs (Int32.toNatClampNeg (i + 3))), .int (xs (Int32.toNatClampNeg (i + 4))), .int 0]) (rest := []) S (kL_change l g hst hc1) (vx_cwSW 6 S.2.2.2.2 gL_law_L_change rfl rfl rfl ynL_change ⟨(Nat.le_of_ble_eq_true rfl), (Nat.le_of_ble_eq_true rfl)⟩) (dpS hE hP hS) rfl rfl hl.1 rfl (lv_room (Nat.le_of_ble_eq_true rfl)) dL_law_842 ⟨by omega, by omega⟩) hS (fun H locs hP hS => ?_)
    refine lv_istore (lv' := [(5, .int v3), (4, .int i), (0, .ref b), (1, .ref (dad g 0)), (2, .ref (dad g 444)), (3, .ref (dad g 463))]) S.1 S.2.1 dL_law_845 hl (by decide) rfl (fun ls hl => ?_)
    refine lv_aload_n S.1 S.2.1 dL_law_847 rfl (lv_at hl 4 rfl) ?_
    refine lv_aload_n S.1 S.2.1 dL_law_848 rfl (lv_at hl 2 rfl) ?_
    refine lv_iload S.1 S.2.1 dL_law_849 (lv_at hl 1 rfl) ?_
    refine lv_iconst (v := 1) S.1 S.2.1 dL_law_851 (by decide) ?_
    refine lv_iadd S.1 S.2.1 dL_law_852 ?_
    obtain ⟨hi, h⟩ := d_g h
    refine va_sld S.1 S.2.1 hX hbl hbA hS (dIx_in hi) dL_law_853 ?_
    refine lv_aload_n S.1 S.2.1 dL_law_854 rfl (lv_at hl 2 rfl) ?_
    refine lv_iload S.1 S.2.1 dL_law_855 (lv_at hl 1 rfl) ?_
    refine lv_iconst (v := 2) S.1 S.2.1 dL_law_857 (by decide) ?_
    refine lv_iadd S.1 S.2.1 dL_law_858 ?_
    obtain ⟨hi, h⟩ := d_g h
    refine va_sld S.1 S.2.1 hX hbl hbA hS (dIx_in hi) dL_law_859 ?_
    refine lv_aload_n S.1 S.2.1 dL_law_860 rfl (lv_at hl 2 rfl) ?_
    refine lv_iload S.1 S.2.1 dL_law_861 (lv_at hl 1 rfl) ?_
    refine lv_iconst (v := 3) S.1 S.2.1 dL_law_863 (by decide) ?_
    refine lv_iadd S.1 S.2.1 dL_law_864 ?_
    obtain ⟨hi, h⟩ := d_g h
    refine va_sld S.1 S.2.1 hX hbl hbA hS (dIx_in hi) dL_law_865 ?_
    refine lv_aload_n S.1 S.2.1 dL_law_866 rfl (lv_at hl 2 rfl) ?_
    refine lv_iload S.1 S.2.1 dL_law_867 (lv_at hl 1 rfl) ?_
    refine lv_iconst (v := 4) S.1 S.2.1 dL_law_869 (by decide) ?_
    refine lv_iadd S.1 S.2.1 dL_law_870 ?_
    obtain ⟨hi, h⟩ := d_g h
    refine va_sld S.1 S.2.1 hX hbl hbA hS (dIx_in hi) dL_law_871 ?_
    refine lv_aload_n S.1 S.2.1 dL_law_872 rfl (lv_at hl 2 rfl) ?_
    refine lv_iload S.1 S.2.1 dL_law_873 (lv_at hl 1 rfl) ?_
    refine lv_iconst (v := 5) S.1 S.2.1 dL_law_875 (by decide) ?_
    refine lv_iadd S.1 S.2.1 dL_law_876 ?_
    obtain ⟨hi, h⟩ := d_g h
    refine va_sld S.1 S.2.1 hX hbl hbA hS (dIx_in hi) dL_law_877 ?_
    refine lv_if_eq (tgt := 885) S.1 S.2.1 dL_law_878 (by decide) (fun cq => ?_) (fun cq => ?_)
    · have h := d_t cq h
      refine lv_iconst (v := 0) S.1 S.2.1 dL_law_885 (by decide) ?_
      obtain ⟨m5, hc4, h⟩ := d_b h
      refine drv (va_runV (As := [.int (xs (Int32.toNatClampNeg (i + 1))), .int (xs (Int32.toNatClampNeg (i + 2))), .int (xs (Int32.toNatClampNeg (i + 3))), .int (xs (Int32.toNatClampNeg (i + 4))), .int 0]) (rest := []) S (kX12_change l g hc4) (cwV 5 S.2.2.2.2 gL_law_X12_change rfl rfl rfl ynX12_change ⟨Nat.le_of_ble_eq_true rfl, Nat.le_of_ble_eq_true rfl⟩) (dpV hE hP hS (ci := 12) rfl (dat13 dk_444)) rfl rfl hl.1 rfl (lv_room (Nat.le_of_ble_eq_true rfl)) dL_law_886 ⟨by omega, by omega⟩) hS (fun H locs hP hS => ?_)
      refine lv_aload_n S.1 S.2.1 dL_law_889 rfl (lv_at hl 4 rfl) ?_
      obtain ⟨v7, hc6, h⟩ := d_b h
      refine dri (va_runV (As := []) (rest := []) S (kX12_thrown l g hc6) (cwV 0 S.2.2.2.2 gL_law_X12_thrown rfl rfl rfl ynX12_thrown ⟨Nat.le_of_ble_eq_true rfl, Nat.le_of_ble_eq_true rfl⟩) (dpV hE hP hS (ci := 12) rfl (dat13 dk_444)) rfl rfl hl.1 rfl (lv_room (Nat.le_of_ble_eq_true rfl)) dL_law_890 ⟨by omega, by omega⟩) hS (fun H locs hP hS => ?_)
      refine lv_iload S.1 S.2.1 dL_law_893 (lv_at hl 0 rfl) ?_
      refine lv_icmp_eq (tgt := 900) S.1 S.2.1 dL_law_895 (by decide) (fun cq => ?_) (fun cq => ?_)
      · have h := d_t cq h
        refine lv_goto (tgt := 1873) S.1 S.2.1 dL_law_900 (by decide) ?_
        obtain rfl := Option.some.inj h
        exact kk H locs ls _ _ (by omega) (by omega) hP hS (lv_sub hl [1, 2, 3, 4, 5] rfl)
      · have h := d_f cq h
        cases h
    · have h := d_f cq h
      refine lv_iconst (v := 1) S.1 S.2.1 dL_law_881 (by decide) ?_
      refine lv_goto (tgt := 886) S.1 S.2.1 dL_law_882 (by decide) ?_
      obtain ⟨m9, hc8, h⟩ := d_b h
      refine drv (va_runV (As := [.int (xs (Int32.toNatClampNeg (i + 1))), .int (xs (Int32.toNatClampNeg (i + 2))), .int (xs (Int32.toNatClampNeg (i + 3))), .int (xs (Int32.toNatClampNeg (i + 4))), .int 1]) (rest := []) S (kX12_change l g hc8) (cwV 5 S.2.2.2.2 gL_law_X12_change rfl rfl rfl ynX12_change ⟨Nat.le_of_ble_eq_true rfl, Nat.le_of_ble_eq_true rfl⟩) (dpV hE hP hS (ci := 12) rfl (dat13 dk_444)) rfl rfl hl.1 rfl (lv_room (Nat.le_of_ble_eq_true rfl)) dL_law_886 ⟨by omega, by omega⟩) hS (fun H locs hP hS => ?_)
      refine lv_aload_n S.1 S.2.1 dL_law_889 rfl (lv_at hl 4 rfl) ?_
      obtain ⟨v11, hc10, h⟩ := d_b h
      refine dri (va_runV (As := []) (rest := []) S (kX12_thrown l g hc10) (cwV 0 S.2.2.2.2 gL_law_X12_thrown rfl rfl rfl ynX12_thrown ⟨Nat.le_of_ble_eq_true rfl, Nat.le_of_ble_eq_true rfl⟩) (dpV hE hP hS (ci := 12) rfl (dat13 dk_444)) rfl rfl hl.1 rfl (lv_room (Nat.le_of_ble_eq_true rfl)) dL_law_890 ⟨by omega, by omega⟩) hS (fun H locs hP hS => ?_)
      refine lv_iload S.1 S.2.1 dL_law_893 (lv_at hl 0 rfl) ?_
      refine lv_icmp_eq (tgt := 900) S.1 S.2.1 dL_law_895 (by decide) (fun cq => ?_) (fun cq => ?_)
      · have h := d_t cq h
        refine lv_goto (tgt := 1873) S.1 S.2.1 dL_law_900 (by decide) ?_
        obtain rfl := Option.some.inj h
        exact kk H locs ls _ _ (by omega) (by omega) hP hS (lv_sub hl [1, 2, 3, 4, 5] rfl)
      · have h := d_f cq h
        cases h
  · have h := d_f cq h
    refine lv_iconst (v := 1) S.1 S.2.1 dL_law_837 (by decide) ?_
    refine lv_goto (tgt := 842) S.1 S.2.1 dL_law_838 (by decide) ?_
    obtain ⟨⟨v14, m13⟩, hc12, h⟩ := d_b h
    have h := d_p2 h
    refine dLri (vx_runSX (As := [.ref (dad g 0), .int (xs (Int32.toNatClampNeg (i + 1))), .int (xs (Int32.toNatClampNeg (i + 2))), .int (xs (Int32.toNatClampNeg (i + 3))), .int (xs (Int32.toNatClampNeg (i + 4))), .int 1]) (rest := []) S (kL_change l g hst hc12) (vx_cwSW 6 S.2.2.2.2 gL_law_L_change rfl rfl rfl ynL_change ⟨(Nat.le_of_ble_eq_true rfl), (Nat.le_of_ble_eq_true rfl)⟩) (dpS hE hP hS) rfl rfl hl.1 rfl (lv_room (Nat.le_of_ble_eq_true rfl)) dL_law_842 ⟨by omega, by omega⟩) hS (fun H locs hP hS => ?_)
    refine lv_istore (lv' := [(5, .int v14), (4, .int i), (0, .ref b), (1, .ref (dad g 0)), (2, .ref (dad g 444)), (3, .ref (dad g 463))]) S.1 S.2.1 dL_law_845 hl (by decide) rfl (fun ls hl => ?_)
    refine lv_aload_n S.1 S.2.1 dL_law_847 rfl (lv_at hl 4 rfl) ?_
    refine lv_aload_n S.1 S.2.1 dL_law_848 rfl (lv_at hl 2 rfl) ?_
    refine lv_iload S.1 S.2.1 dL_law_849 (lv_at hl 1 rfl) ?_
    refine lv_iconst (v := 1) S.1 S.2.1 dL_law_851 (by decide) ?_
    refine lv_iadd S.1 S.2.1 dL_law_852 ?_
    obtain ⟨hi, h⟩ := d_g h
    refine va_sld S.1 S.2.1 hX hbl hbA hS (dIx_in hi) dL_law_853 ?_
    refine lv_aload_n S.1 S.2.1 dL_law_854 rfl (lv_at hl 2 rfl) ?_
    refine lv_iload S.1 S.2.1 dL_law_855 (lv_at hl 1 rfl) ?_
    refine lv_iconst (v := 2) S.1 S.2.1 dL_law_857 (by decide) ?_
    refine lv_iadd S.1 S.2.1 dL_law_858 ?_
    obtain ⟨hi, h⟩ := d_g h
    refine va_sld S.1 S.2.1 hX hbl hbA hS (dIx_in hi) dL_law_859 ?_
    refine lv_aload_n S.1 S.2.1 dL_law_860 rfl (lv_at hl 2 rfl) ?_
    refine lv_iload S.1 S.2.1 dL_law_861 (lv_at hl 1 rfl) ?_
    refine lv_iconst (v := 3) S.1 S.2.1 dL_law_863 (by decide) ?_
    refine lv_iadd S.1 S.2.1 dL_law_864 ?_
    obtain ⟨hi, h⟩ := d_g h
    refine va_sld S.1 S.2.1 hX hbl hbA hS (dIx_in hi) dL_law_865 ?_
    refine lv_aload_n S.1 S.2.1 dL_law_866 rfl (lv_at hl 2 rfl) ?_
    refine lv_iload S.1 S.2.1 dL_law_867 (lv_at hl 1 rfl) ?_
    refine lv_iconst (v := 4) S.1 S.2.1 dL_law_869 (by decide) ?_
    refine lv_iadd S.1 S.2.1 dL_law_870 ?_
    obtain ⟨hi, h⟩ := d_g h
    refine va_sld S.1 S.2.1 hX hbl hbA hS (dIx_in hi) dL_law_871 ?_
    refine lv_aload_n S.1 S.2.1 dL_law_872 rfl (lv_at hl 2 rfl) ?_
    refine lv_iload S.1 S.2.1 dL_law_873 (lv_at hl 1 rfl) ?_
    refine lv_iconst (v := 5) S.1 S.2.1 dL_law_875 (by decide) ?_
    refine lv_iadd S.1 S.2.1 dL_law_876 ?_
    obtain ⟨hi, h⟩ := d_g h
    refine va_sld S.1 S.2.1 hX hbl hbA hS (dIx_in hi) dL_law_877 ?_
    refine lv_if_eq (tgt := 885) S.1 S.2.1 dL_law_878 (by decide) (fun cq => ?_) (fun cq => ?_)
    · have h := d_t cq h
      refine lv_iconst (v := 0) S.1 S.2.1 dL_law_885 (by decide) ?_
      obtain ⟨m16, hc15, h⟩ := d_b h
      refine drv (va_runV (As := [.int (xs (Int32.toNatClampNeg (i + 1))), .int (xs (Int32.toNatClampNeg (i + 2))), .int (xs (Int32.toNatClampNeg (i + 3))), .int (xs (Int32.toNatClampNeg (i + 4))), .int 0]) (rest := []) S (kX12_change l g hc15) (cwV 5 S.2.2.2.2 gL_law_X12_change rfl rfl rfl ynX12_change ⟨Nat.le_of_ble_eq_true rfl, Nat.le_of_ble_eq_true rfl⟩) (dpV hE hP hS (ci := 12) rfl (dat13 dk_444)) rfl rfl hl.1 rfl (lv_room (Nat.le_of_ble_eq_true rfl)) dL_law_886 ⟨by omega, by omega⟩) hS (fun H locs hP hS => ?_)
      refine lv_aload_n S.1 S.2.1 dL_law_889 rfl (lv_at hl 4 rfl) ?_
      obtain ⟨v18, hc17, h⟩ := d_b h
      refine dri (va_runV (As := []) (rest := []) S (kX12_thrown l g hc17) (cwV 0 S.2.2.2.2 gL_law_X12_thrown rfl rfl rfl ynX12_thrown ⟨Nat.le_of_ble_eq_true rfl, Nat.le_of_ble_eq_true rfl⟩) (dpV hE hP hS (ci := 12) rfl (dat13 dk_444)) rfl rfl hl.1 rfl (lv_room (Nat.le_of_ble_eq_true rfl)) dL_law_890 ⟨by omega, by omega⟩) hS (fun H locs hP hS => ?_)
      refine lv_iload S.1 S.2.1 dL_law_893 (lv_at hl 0 rfl) ?_
      refine lv_icmp_eq (tgt := 900) S.1 S.2.1 dL_law_895 (by decide) (fun cq => ?_) (fun cq => ?_)
      · have h := d_t cq h
        refine lv_goto (tgt := 1873) S.1 S.2.1 dL_law_900 (by decide) ?_
        obtain rfl := Option.some.inj h
        exact kk H locs ls _ _ (by omega) (by omega) hP hS (lv_sub hl [1, 2, 3, 4, 5] rfl)
      · have h := d_f cq h
        cases h
    · have h := d_f cq h
      refine lv_iconst (v := 1) S.1 S.2.1 dL_law_881 (by decide) ?_
      refine lv_goto (tgt := 886) S.1 S.2.1 dL_law_882 (by decide) ?_
      obtain ⟨m20, hc19, h⟩ := d_b h
      refine drv (va_runV (As := [.int (xs (Int32.toNatClampNeg (i + 1))), .int (xs (Int32.toNatClampNeg (i + 2))), .int (xs (Int32.toNatClampNeg (i + 3))), .int (xs (Int32.toNatClampNeg (i + 4))), .int 1]) (rest := []) S (kX12_change l g hc19) (cwV 5 S.2.2.2.2 gL_law_X12_change rfl rfl rfl ynX12_change ⟨Nat.le_of_ble_eq_true rfl, Nat.le_of_ble_eq_true rfl⟩) (dpV hE hP hS (ci := 12) rfl (dat13 dk_444)) rfl rfl hl.1 rfl (lv_room (Nat.le_of_ble_eq_true rfl)) dL_law_886 ⟨by omega, by omega⟩) hS (fun H locs hP hS => ?_)
      refine lv_aload_n S.1 S.2.1 dL_law_889 rfl (lv_at hl 4 rfl) ?_
      obtain ⟨v22, hc21, h⟩ := d_b h
      refine dri (va_runV (As := []) (rest := []) S (kX12_thrown l g hc21) (cwV 0 S.2.2.2.2 gL_law_X12_thrown rfl rfl rfl ynX12_thrown ⟨Nat.le_of_ble_eq_true rfl, Nat.le_of_ble_eq_true rfl⟩) (dpV hE hP hS (ci := 12) rfl (dat13 dk_444)) rfl rfl hl.1 rfl (lv_room (Nat.le_of_ble_eq_true rfl)) dL_law_890 ⟨by omega, by omega⟩) hS (fun H locs hP hS => ?_)
      refine lv_iload S.1 S.2.1 dL_law_893 (lv_at hl 0 rfl) ?_
      refine lv_icmp_eq (tgt := 900) S.1 S.2.1 dL_law_895 (by decide) (fun cq => ?_) (fun cq => ?_)
      · have h := d_t cq h
        refine lv_goto (tgt := 1873) S.1 S.2.1 dL_law_900 (by decide) ?_
        obtain rfl := Option.some.inj h
        exact kk H locs ls _ _ (by omega) (by omega) hP hS (lv_sub hl [1, 2, 3, 4, 5] rfl)
      · have h := d_f cq h
        cases h
theorem dL_law_903 : decode cL_law 903 = .ok (.aload_n 1, 1) := by decide +kernel
theorem dL_law_904 : decode cL_law 904 = .ok (.aload_n 3, 1) := by decide +kernel
theorem dL_law_905 : decode cL_law 905 = .ok (.invokestatic 138, 3) := by decide +kernel
theorem dL_law_908 : decode cL_law 908 = .ok (.istore 5, 2) := by decide +kernel
theorem dL_law_910 : decode cL_law 910 = .ok (.aload_n 2, 1) := by decide +kernel
theorem dL_law_911 : decode cL_law 911 = .ok (.invokevirtual 141, 3) := by decide +kernel
theorem dL_law_914 : decode cL_law 914 = .ok (.istore 6, 2) := by decide +kernel
theorem dL_law_916 : decode cL_law 916 = .ok (.aload_n 2, 1) := by decide +kernel
theorem dL_law_917 : decode cL_law 917 = .ok (.invokevirtual 104, 3) := by decide +kernel
theorem dL_law_920 : decode cL_law 920 = .ok (.iload 5, 2) := by decide +kernel
theorem dL_law_922 : decode cL_law 922 = .ok (.if_icmp .eq 5, 3) := by decide +kernel
theorem dL_law_925 : decode cL_law 925 = .ok (.iconst 0, 1) := by decide +kernel
theorem dL_law_926 : decode cL_law 926 = .ok (.ireturn, 1) := by decide +kernel
theorem dL_law_927 : decode cL_law 927 = .ok (.iload 5, 2) := by decide +kernel
theorem dL_law_929 : decode cL_law 929 = .ok (.ifCond .ne 15, 3) := by decide +kernel
theorem dL_law_932 : decode cL_law 932 = .ok (.aload_n 3, 1) := by decide +kernel
theorem dL_law_933 : decode cL_law 933 = .ok (.iconst 0, 1) := by decide +kernel
theorem dL_law_934 : decode cL_law 934 = .ok (.laload, 1) := by decide +kernel
theorem dL_law_935 : decode cL_law 935 = .ok (.iload 6, 2) := by decide +kernel
theorem dL_law_937 : decode cL_law 937 = .ok (.i2l, 1) := by decide +kernel
theorem dL_law_938 : decode cL_law 938 = .ok (.lcmp, 1) := by decide +kernel
theorem dL_law_939 : decode cL_law 939 = .ok (.ifCond .eq 5, 3) := by decide +kernel
theorem dL_law_942 : decode cL_law 942 = .ok (.iconst 0, 1) := by decide +kernel
theorem dL_law_943 : decode cL_law 943 = .ok (.ireturn, 1) := by decide +kernel
theorem dL_law_944 : decode cL_law 944 = .ok (.goto 929, 3) := by decide +kernel
def fLaw_9 (xs : Nat → Int32) (nL : Nat) (i : Int32) (m : dM) : Option dM := (fL_cut m 0 463).bind (fun q => dP2 q (fun v3 m2 => (fX12_cut m2 444).bind (fun q => dP2 q (fun v6 m5 => (fX12_thrown m5 444).bind (fun v8 => if v8 = v3 then if v3 = 0 then dg (dIx 0 (dL 463)) (if (lg_cmp (m5.2 463 (Int32.toNatClampNeg (0))) (Int32.toInt64 v6)) = 0 then some m5 else none) else some m5 else none)))))
set_option maxHeartbeats 4000000 in
set_option maxRecDepth 100000 in
theorem kLaw_9 {p : Program} {l : Launch} {e : Env} {s : State} {mth : MethodId} {below : List Frame} {meth : Method} {c : Code} {b nL : Nat} {xs : Nat → Int32} {g : dG} {Q : State → Prop} {H : Heap} {locs : List Loc} {cells slots : Nat} {ls : Array Slot} {i : Int32} {m m9 : dM} (hst : l.stackTraces = false) (S : CallFix p mth c cL_law 8 s #[Value.ref b] wsL_law RL) (hX : va_X b nL xs s s.heap) (hbl : b < s.heap.size) (hbA : ¬ dA g b) (hE : dEnv g s) (hR : cells + 6 ≤ room_1.cells ∧ slots + 36 ≤ room_1.slots) (h : fLaw_9 xs nL i m = some m9) (hP : va_P g.1 vwCl (dws g m) H) (hS : va_S (dA g) s.heap H locs) (hl : lv_has ls 8 [(4, .int i), (0, .ref b), (1, .ref (dad g 0)), (2, .ref (dad g 444)), (3, .ref (dad g 463))])
    (kk : ∀ (H : Heap) (locs : List Loc) (ls : Array Slot) (cells2 slots2 : Nat), cells2 ≤ cells + 6 → slots2 ≤ slots + 36 → va_P g.1 vwCl (dws g m9) H → va_S (dA g) s.heap H locs → lv_has ls 8 [(4, .int i), (0, .ref b), (1, .ref (dad g 0)), (2, .ref (dad g 444)), (3, .ref (dad g 463))] → W p l e room_1 s mth #[Value.ref b] below meth c H locs cells2 slots2 Q (F0 mth 1873 ls [])) : W p l e room_1 s mth #[Value.ref b] below meth c H locs cells slots Q (F0 mth 903 ls []) := by
  obtain ⟨hR1, hR2⟩ := hR
  unfold fLaw_9 at h
  refine lv_aload_n S.1 S.2.1 dL_law_903 rfl (lv_at hl 2 rfl) ?_
  refine lv_aload_n S.1 S.2.1 dL_law_904 rfl (lv_at hl 4 rfl) ?_
  obtain ⟨⟨v3, m2⟩, hc1, h⟩ := d_b h
  have h := d_p2 h
  refine dLri (vx_runSX (As := [.ref (dad g 0), .ref (dad g 463)]) (rest := []) S (kL_cut l g hst hc1) (vx_cwSW 2 S.2.2.2.2 gL_law_L_cut rfl rfl rfl ynL_cut ⟨(Nat.le_of_ble_eq_true rfl), (Nat.le_of_ble_eq_true rfl)⟩) (dpS hE hP hS) rfl rfl hl.1 rfl (lv_room (Nat.le_of_ble_eq_true rfl)) dL_law_905 ⟨by omega, by omega⟩) hS (fun H locs hP hS => ?_)
  refine lv_istore (lv' := [(5, .int v3), (4, .int i), (0, .ref b), (1, .ref (dad g 0)), (2, .ref (dad g 444)), (3, .ref (dad g 463))]) S.1 S.2.1 dL_law_908 hl (by decide) rfl (fun ls hl => ?_)
  refine lv_aload_n S.1 S.2.1 dL_law_910 rfl (lv_at hl 4 rfl) ?_
  obtain ⟨⟨v6, m5⟩, hc4, h⟩ := d_b h
  have h := d_p2 h
  refine dri (va_runV (As := []) (rest := []) S (kX12_cut l g hc4) (cwV 0 S.2.2.2.2 gL_law_X12_cut rfl rfl rfl ynX12_cut ⟨Nat.le_of_ble_eq_true rfl, Nat.le_of_ble_eq_true rfl⟩) (dpV hE hP hS (ci := 12) rfl (dat13 dk_444)) rfl rfl hl.1 rfl (lv_room (Nat.le_of_ble_eq_true rfl)) dL_law_911 ⟨by omega, by omega⟩) hS (fun H locs hP hS => ?_)
  refine lv_istore (lv' := [(6, .int v6), (5, .int v3), (4, .int i), (0, .ref b), (1, .ref (dad g 0)), (2, .ref (dad g 444)), (3, .ref (dad g 463))]) S.1 S.2.1 dL_law_914 hl (by decide) rfl (fun ls hl => ?_)
  refine lv_aload_n S.1 S.2.1 dL_law_916 rfl (lv_at hl 5 rfl) ?_
  obtain ⟨v8, hc7, h⟩ := d_b h
  refine dri (va_runV (As := []) (rest := []) S (kX12_thrown l g hc7) (cwV 0 S.2.2.2.2 gL_law_X12_thrown rfl rfl rfl ynX12_thrown ⟨Nat.le_of_ble_eq_true rfl, Nat.le_of_ble_eq_true rfl⟩) (dpV hE hP hS (ci := 12) rfl (dat13 dk_444)) rfl rfl hl.1 rfl (lv_room (Nat.le_of_ble_eq_true rfl)) dL_law_917 ⟨by omega, by omega⟩) hS (fun H locs hP hS => ?_)
  refine lv_iload S.1 S.2.1 dL_law_920 (lv_at hl 1 rfl) ?_
  refine lv_icmp_eq (tgt := 927) S.1 S.2.1 dL_law_922 (by decide) (fun cq => ?_) (fun cq => ?_)
  · have h := d_t cq h
    refine lv_iload S.1 S.2.1 dL_law_927 (lv_at hl 1 rfl) ?_
    refine lv_if_ne (tgt := 944) S.1 S.2.1 dL_law_929 (by decide) (fun cq => ?_) (fun cq => ?_)
    · have h := d_f cq h
      refine lv_goto (tgt := 1873) S.1 S.2.1 dL_law_944 (by decide) ?_
      obtain rfl := Option.some.inj h
      exact kk H locs ls _ _ (by omega) (by omega) hP hS (lv_sub hl [2, 3, 4, 5, 6] rfl)
    · have h := d_t cq h
      refine lv_aload_n S.1 S.2.1 dL_law_932 rfl (lv_at hl 6 rfl) ?_
      refine lv_iconst (v := 0) S.1 S.2.1 dL_law_933 (by decide) ?_
      obtain ⟨hi, h⟩ := d_g h
      refine d_lald S hE hP dk_463 hi dL_law_934 ?_
      refine lv_iload S.1 S.2.1 dL_law_935 (lv_at hl 0 rfl) ?_
      refine lv_i2l S.1 S.2.1 dL_law_937 rfl ?_
      refine W.lcmp S.1 S.2.1 dL_law_938 ?_
      refine lv_if_eq (tgt := 944) S.1 S.2.1 dL_law_939 (by decide) (fun cq => ?_) (fun cq => ?_)
      · have h := d_t cq h
        refine lv_goto (tgt := 1873) S.1 S.2.1 dL_law_944 (by decide) ?_
        obtain rfl := Option.some.inj h
        exact kk H locs ls _ _ (by omega) (by omega) hP hS (lv_sub hl [2, 3, 4, 5, 6] rfl)
      · have h := d_f cq h
        cases h
  · have h := d_f cq h
    cases h
theorem dL_law_947 : decode cL_law 947 = .ok (.aload_n 1, 1) := by decide +kernel
theorem dL_law_948 : decode cL_law 948 = .ok (.aload_n 0, 1) := by decide +kernel
theorem dL_law_949 : decode cL_law 949 = .ok (.iload 4, 2) := by decide +kernel
theorem dL_law_951 : decode cL_law 951 = .ok (.iconst 1, 1) := by decide +kernel
theorem dL_law_952 : decode cL_law 952 = .ok (.iadd, 1) := by decide +kernel
theorem dL_law_953 : decode cL_law 953 = .ok (.iaload, 1) := by decide +kernel
theorem dL_law_954 : decode cL_law 954 = .ok (.aload_n 0, 1) := by decide +kernel
theorem dL_law_955 : decode cL_law 955 = .ok (.iload 4, 2) := by decide +kernel
theorem dL_law_957 : decode cL_law 957 = .ok (.iconst 2, 1) := by decide +kernel
theorem dL_law_958 : decode cL_law 958 = .ok (.iadd, 1) := by decide +kernel
theorem dL_law_959 : decode cL_law 959 = .ok (.iaload, 1) := by decide +kernel
theorem dL_law_960 : decode cL_law 960 = .ok (.aload_n 3, 1) := by decide +kernel
theorem dL_law_961 : decode cL_law 961 = .ok (.invokestatic 142, 3) := by decide +kernel
theorem dL_law_964 : decode cL_law 964 = .ok (.istore 5, 2) := by decide +kernel
theorem dL_law_966 : decode cL_law 966 = .ok (.aload_n 2, 1) := by decide +kernel
theorem dL_law_967 : decode cL_law 967 = .ok (.aload_n 0, 1) := by decide +kernel
theorem dL_law_968 : decode cL_law 968 = .ok (.iload 4, 2) := by decide +kernel
theorem dL_law_970 : decode cL_law 970 = .ok (.iconst 1, 1) := by decide +kernel
theorem dL_law_971 : decode cL_law 971 = .ok (.iadd, 1) := by decide +kernel
theorem dL_law_972 : decode cL_law 972 = .ok (.iaload, 1) := by decide +kernel
theorem dL_law_973 : decode cL_law 973 = .ok (.aload_n 0, 1) := by decide +kernel
theorem dL_law_974 : decode cL_law 974 = .ok (.iload 4, 2) := by decide +kernel
theorem dL_law_976 : decode cL_law 976 = .ok (.iconst 2, 1) := by decide +kernel
theorem dL_law_977 : decode cL_law 977 = .ok (.iadd, 1) := by decide +kernel
theorem dL_law_978 : decode cL_law 978 = .ok (.iaload, 1) := by decide +kernel
theorem dL_law_979 : decode cL_law 979 = .ok (.invokevirtual 144, 3) := by decide +kernel
theorem dL_law_982 : decode cL_law 982 = .ok (.istore 6, 2) := by decide +kernel
theorem dL_law_984 : decode cL_law 984 = .ok (.aload_n 2, 1) := by decide +kernel
theorem dL_law_985 : decode cL_law 985 = .ok (.invokevirtual 104, 3) := by decide +kernel
theorem dL_law_988 : decode cL_law 988 = .ok (.iload 5, 2) := by decide +kernel
theorem dL_law_990 : decode cL_law 990 = .ok (.if_icmp .eq 5, 3) := by decide +kernel
theorem dL_law_993 : decode cL_law 993 = .ok (.iconst 0, 1) := by decide +kernel
theorem dL_law_994 : decode cL_law 994 = .ok (.ireturn, 1) := by decide +kernel
theorem dL_law_995 : decode cL_law 995 = .ok (.iload 5, 2) := by decide +kernel
theorem dL_law_997 : decode cL_law 997 = .ok (.ifCond .ne 15, 3) := by decide +kernel
theorem dL_law_1000 : decode cL_law 1000 = .ok (.aload_n 3, 1) := by decide +kernel
theorem dL_law_1001 : decode cL_law 1001 = .ok (.iconst 0, 1) := by decide +kernel
theorem dL_law_1002 : decode cL_law 1002 = .ok (.laload, 1) := by decide +kernel
theorem dL_law_1003 : decode cL_law 1003 = .ok (.iload 6, 2) := by decide +kernel
theorem dL_law_1005 : decode cL_law 1005 = .ok (.i2l, 1) := by decide +kernel
theorem dL_law_1006 : decode cL_law 1006 = .ok (.lcmp, 1) := by decide +kernel
theorem dL_law_1007 : decode cL_law 1007 = .ok (.ifCond .eq 5, 3) := by decide +kernel
theorem dL_law_1010 : decode cL_law 1010 = .ok (.iconst 0, 1) := by decide +kernel
theorem dL_law_1011 : decode cL_law 1011 = .ok (.ireturn, 1) := by decide +kernel
theorem dL_law_1012 : decode cL_law 1012 = .ok (.goto 861, 3) := by decide +kernel
def fLaw_10 (xs : Nat → Int32) (nL : Nat) (i : Int32) (m : dM) : Option dM := dg (dIx (i + 1) nL) (dg (dIx (i + 2) nL) ((fL_place m 0 (xs (Int32.toNatClampNeg (i + 1))) (xs (Int32.toNatClampNeg (i + 2))) 463).bind (fun q => dP2 q (fun v3 m2 => dg (dIx (i + 1) nL) (dg (dIx (i + 2) nL) ((fX12_place m2 444 (xs (Int32.toNatClampNeg (i + 1))) (xs (Int32.toNatClampNeg (i + 2)))).bind (fun q => dP2 q (fun v6 m5 => (fX12_thrown m5 444).bind (fun v8 => if v8 = v3 then if v3 = 0 then dg (dIx 0 (dL 463)) (if (lg_cmp (m5.2 463 (Int32.toNatClampNeg (0))) (Int32.toInt64 v6)) = 0 then some m5 else none) else some m5 else none)))))))))
set_option maxHeartbeats 4000000 in
set_option maxRecDepth 100000 in
theorem kLaw_10 {p : Program} {l : Launch} {e : Env} {s : State} {mth : MethodId} {below : List Frame} {meth : Method} {c : Code} {b nL : Nat} {xs : Nat → Int32} {g : dG} {Q : State → Prop} {H : Heap} {locs : List Loc} {cells slots : Nat} {ls : Array Slot} {i : Int32} {m m9 : dM} (hst : l.stackTraces = false) (S : CallFix p mth c cL_law 8 s #[Value.ref b] wsL_law RL) (hX : va_X b nL xs s s.heap) (hbl : b < s.heap.size) (hbA : ¬ dA g b) (hE : dEnv g s) (hR : cells + 6 ≤ room_1.cells ∧ slots + 36 ≤ room_1.slots) (h : fLaw_10 xs nL i m = some m9) (hP : va_P g.1 vwCl (dws g m) H) (hS : va_S (dA g) s.heap H locs) (hl : lv_has ls 8 [(4, .int i), (0, .ref b), (1, .ref (dad g 0)), (2, .ref (dad g 444)), (3, .ref (dad g 463))])
    (kk : ∀ (H : Heap) (locs : List Loc) (ls : Array Slot) (cells2 slots2 : Nat), cells2 ≤ cells + 6 → slots2 ≤ slots + 36 → va_P g.1 vwCl (dws g m9) H → va_S (dA g) s.heap H locs → lv_has ls 8 [(4, .int i), (0, .ref b), (1, .ref (dad g 0)), (2, .ref (dad g 444)), (3, .ref (dad g 463))] → W p l e room_1 s mth #[Value.ref b] below meth c H locs cells2 slots2 Q (F0 mth 1873 ls [])) : W p l e room_1 s mth #[Value.ref b] below meth c H locs cells slots Q (F0 mth 947 ls []) := by
  obtain ⟨hR1, hR2⟩ := hR
  unfold fLaw_10 at h
  refine lv_aload_n S.1 S.2.1 dL_law_947 rfl (lv_at hl 2 rfl) ?_
  refine lv_aload_n S.1 S.2.1 dL_law_948 rfl (lv_at hl 1 rfl) ?_
  refine lv_iload S.1 S.2.1 dL_law_949 (lv_at hl 0 rfl) ?_
  refine lv_iconst (v := 1) S.1 S.2.1 dL_law_951 (by decide) ?_
  refine lv_iadd S.1 S.2.1 dL_law_952 ?_
  obtain ⟨hi, h⟩ := d_g h
  refine va_sld S.1 S.2.1 hX hbl hbA hS (dIx_in hi) dL_law_953 ?_
  refine lv_aload_n S.1 S.2.1 dL_law_954 rfl (lv_at hl 1 rfl) ?_
  refine lv_iload S.1 S.2.1 dL_law_955 (lv_at hl 0 rfl) ?_
  refine lv_iconst (v := 2) S.1 S.2.1 dL_law_957 (by decide) ?_
  refine lv_iadd S.1 S.2.1 dL_law_958 ?_
  obtain ⟨hi, h⟩ := d_g h
  refine va_sld S.1 S.2.1 hX hbl hbA hS (dIx_in hi) dL_law_959 ?_
  refine lv_aload_n S.1 S.2.1 dL_law_960 rfl (lv_at hl 4 rfl) ?_
  obtain ⟨⟨v3, m2⟩, hc1, h⟩ := d_b h
  have h := d_p2 h
  refine dLri (vx_runSX (As := [.ref (dad g 0), .int (xs (Int32.toNatClampNeg (i + 1))), .int (xs (Int32.toNatClampNeg (i + 2))), .ref (dad g 463)]) (rest := []) S (kL_place l g hst hc1) (vx_cwSW 4 S.2.2.2.2 gL_law_L_place rfl rfl rfl ynL_place ⟨(Nat.le_of_ble_eq_true rfl), (Nat.le_of_ble_eq_true rfl)⟩) (dpS hE hP hS) rfl rfl hl.1 rfl (lv_room (Nat.le_of_ble_eq_true rfl)) dL_law_961 ⟨by omega, by omega⟩) hS (fun H locs hP hS => ?_)
  refine lv_istore (lv' := [(5, .int v3), (4, .int i), (0, .ref b), (1, .ref (dad g 0)), (2, .ref (dad g 444)), (3, .ref (dad g 463))]) S.1 S.2.1 dL_law_964 hl (by decide) rfl (fun ls hl => ?_)
  refine lv_aload_n S.1 S.2.1 dL_law_966 rfl (lv_at hl 4 rfl) ?_
  refine lv_aload_n S.1 S.2.1 dL_law_967 rfl (lv_at hl 2 rfl) ?_
  refine lv_iload S.1 S.2.1 dL_law_968 (lv_at hl 1 rfl) ?_
  refine lv_iconst (v := 1) S.1 S.2.1 dL_law_970 (by decide) ?_
  refine lv_iadd S.1 S.2.1 dL_law_971 ?_
  obtain ⟨hi, h⟩ := d_g h
  refine va_sld S.1 S.2.1 hX hbl hbA hS (dIx_in hi) dL_law_972 ?_
  refine lv_aload_n S.1 S.2.1 dL_law_973 rfl (lv_at hl 2 rfl) ?_
  refine lv_iload S.1 S.2.1 dL_law_974 (lv_at hl 1 rfl) ?_
  refine lv_iconst (v := 2) S.1 S.2.1 dL_law_976 (by decide) ?_
  refine lv_iadd S.1 S.2.1 dL_law_977 ?_
  obtain ⟨hi, h⟩ := d_g h
  refine va_sld S.1 S.2.1 hX hbl hbA hS (dIx_in hi) dL_law_978 ?_
  obtain ⟨⟨v6, m5⟩, hc4, h⟩ := d_b h
  have h := d_p2 h
  refine dri (va_runV (As := [.int (xs (Int32.toNatClampNeg (i + 1))), .int (xs (Int32.toNatClampNeg (i + 2)))]) (rest := []) S (kX12_place l g hc4) (cwV 2 S.2.2.2.2 gL_law_X12_place rfl rfl rfl ynX12_place ⟨Nat.le_of_ble_eq_true rfl, Nat.le_of_ble_eq_true rfl⟩) (dpV hE hP hS (ci := 12) rfl (dat13 dk_444)) rfl rfl hl.1 rfl (lv_room (Nat.le_of_ble_eq_true rfl)) dL_law_979 ⟨by omega, by omega⟩) hS (fun H locs hP hS => ?_)
  refine lv_istore (lv' := [(6, .int v6), (5, .int v3), (4, .int i), (0, .ref b), (1, .ref (dad g 0)), (2, .ref (dad g 444)), (3, .ref (dad g 463))]) S.1 S.2.1 dL_law_982 hl (by decide) rfl (fun ls hl => ?_)
  refine lv_aload_n S.1 S.2.1 dL_law_984 rfl (lv_at hl 5 rfl) ?_
  obtain ⟨v8, hc7, h⟩ := d_b h
  refine dri (va_runV (As := []) (rest := []) S (kX12_thrown l g hc7) (cwV 0 S.2.2.2.2 gL_law_X12_thrown rfl rfl rfl ynX12_thrown ⟨Nat.le_of_ble_eq_true rfl, Nat.le_of_ble_eq_true rfl⟩) (dpV hE hP hS (ci := 12) rfl (dat13 dk_444)) rfl rfl hl.1 rfl (lv_room (Nat.le_of_ble_eq_true rfl)) dL_law_985 ⟨by omega, by omega⟩) hS (fun H locs hP hS => ?_)
  refine lv_iload S.1 S.2.1 dL_law_988 (lv_at hl 1 rfl) ?_
  refine lv_icmp_eq (tgt := 995) S.1 S.2.1 dL_law_990 (by decide) (fun cq => ?_) (fun cq => ?_)
  · have h := d_t cq h
    refine lv_iload S.1 S.2.1 dL_law_995 (lv_at hl 1 rfl) ?_
    refine lv_if_ne (tgt := 1012) S.1 S.2.1 dL_law_997 (by decide) (fun cq => ?_) (fun cq => ?_)
    · have h := d_f cq h
      refine lv_goto (tgt := 1873) S.1 S.2.1 dL_law_1012 (by decide) ?_
      obtain rfl := Option.some.inj h
      exact kk H locs ls _ _ (by omega) (by omega) hP hS (lv_sub hl [2, 3, 4, 5, 6] rfl)
    · have h := d_t cq h
      refine lv_aload_n S.1 S.2.1 dL_law_1000 rfl (lv_at hl 6 rfl) ?_
      refine lv_iconst (v := 0) S.1 S.2.1 dL_law_1001 (by decide) ?_
      obtain ⟨hi, h⟩ := d_g h
      refine d_lald S hE hP dk_463 hi dL_law_1002 ?_
      refine lv_iload S.1 S.2.1 dL_law_1003 (lv_at hl 0 rfl) ?_
      refine lv_i2l S.1 S.2.1 dL_law_1005 rfl ?_
      refine W.lcmp S.1 S.2.1 dL_law_1006 ?_
      refine lv_if_eq (tgt := 1012) S.1 S.2.1 dL_law_1007 (by decide) (fun cq => ?_) (fun cq => ?_)
      · have h := d_t cq h
        refine lv_goto (tgt := 1873) S.1 S.2.1 dL_law_1012 (by decide) ?_
        obtain rfl := Option.some.inj h
        exact kk H locs ls _ _ (by omega) (by omega) hP hS (lv_sub hl [2, 3, 4, 5, 6] rfl)
      · have h := d_f cq h
        cases h
  · have h := d_f cq h
    cases h
theorem dL_law_1015 : decode cL_law 1015 = .ok (.aload_n 1, 1) := by decide +kernel
theorem dL_law_1016 : decode cL_law 1016 = .ok (.aload_n 0, 1) := by decide +kernel
theorem dL_law_1017 : decode cL_law 1017 = .ok (.iload 4, 2) := by decide +kernel
theorem dL_law_1019 : decode cL_law 1019 = .ok (.iconst 1, 1) := by decide +kernel
theorem dL_law_1020 : decode cL_law 1020 = .ok (.iadd, 1) := by decide +kernel
theorem dL_law_1021 : decode cL_law 1021 = .ok (.iaload, 1) := by decide +kernel
theorem dL_law_1022 : decode cL_law 1022 = .ok (.aload_n 3, 1) := by decide +kernel
theorem dL_law_1023 : decode cL_law 1023 = .ok (.invokestatic 145, 3) := by decide +kernel
theorem dL_law_1026 : decode cL_law 1026 = .ok (.istore 5, 2) := by decide +kernel
theorem dL_law_1028 : decode cL_law 1028 = .ok (.aload_n 2, 1) := by decide +kernel
theorem dL_law_1029 : decode cL_law 1029 = .ok (.aload_n 0, 1) := by decide +kernel
theorem dL_law_1030 : decode cL_law 1030 = .ok (.iload 4, 2) := by decide +kernel
theorem dL_law_1032 : decode cL_law 1032 = .ok (.iconst 1, 1) := by decide +kernel
theorem dL_law_1033 : decode cL_law 1033 = .ok (.iadd, 1) := by decide +kernel
theorem dL_law_1034 : decode cL_law 1034 = .ok (.iaload, 1) := by decide +kernel
theorem dL_law_1035 : decode cL_law 1035 = .ok (.invokevirtual 148, 3) := by decide +kernel
theorem dL_law_1038 : decode cL_law 1038 = .ok (.lstore 6, 2) := by decide +kernel
theorem dL_law_1040 : decode cL_law 1040 = .ok (.aload_n 2, 1) := by decide +kernel
theorem dL_law_1041 : decode cL_law 1041 = .ok (.invokevirtual 104, 3) := by decide +kernel
theorem dL_law_1044 : decode cL_law 1044 = .ok (.iload 5, 2) := by decide +kernel
theorem dL_law_1046 : decode cL_law 1046 = .ok (.if_icmp .eq 5, 3) := by decide +kernel
theorem dL_law_1049 : decode cL_law 1049 = .ok (.iconst 0, 1) := by decide +kernel
theorem dL_law_1050 : decode cL_law 1050 = .ok (.ireturn, 1) := by decide +kernel
theorem dL_law_1051 : decode cL_law 1051 = .ok (.iload 5, 2) := by decide +kernel
theorem dL_law_1053 : decode cL_law 1053 = .ok (.ifCond .ne 14, 3) := by decide +kernel
theorem dL_law_1056 : decode cL_law 1056 = .ok (.aload_n 3, 1) := by decide +kernel
theorem dL_law_1057 : decode cL_law 1057 = .ok (.iconst 0, 1) := by decide +kernel
theorem dL_law_1058 : decode cL_law 1058 = .ok (.laload, 1) := by decide +kernel
theorem dL_law_1059 : decode cL_law 1059 = .ok (.lload 6, 2) := by decide +kernel
theorem dL_law_1061 : decode cL_law 1061 = .ok (.lcmp, 1) := by decide +kernel
theorem dL_law_1062 : decode cL_law 1062 = .ok (.ifCond .eq 5, 3) := by decide +kernel
theorem dL_law_1065 : decode cL_law 1065 = .ok (.iconst 0, 1) := by decide +kernel
theorem dL_law_1066 : decode cL_law 1066 = .ok (.ireturn, 1) := by decide +kernel
theorem dL_law_1067 : decode cL_law 1067 = .ok (.goto 806, 3) := by decide +kernel
def fLaw_11 (xs : Nat → Int32) (nL : Nat) (i : Int32) (m : dM) : Option dM := dg (dIx (i + 1) nL) ((fL_walking m 0 (xs (Int32.toNatClampNeg (i + 1))) 463).bind (fun q => dP2 q (fun v3 m2 => dg (dIx (i + 1) nL) ((fX12_walking m2 444 (xs (Int32.toNatClampNeg (i + 1)))).bind (fun q => dP2 q (fun v6 m5 => (fX12_thrown m5 444).bind (fun v8 => if v8 = v3 then if v3 = 0 then dg (dIx 0 (dL 463)) (if (lg_cmp (m5.2 463 (Int32.toNatClampNeg (0))) v6) = 0 then some m5 else none) else some m5 else none)))))))
set_option maxHeartbeats 4000000 in
set_option maxRecDepth 100000 in
theorem kLaw_11 {p : Program} {l : Launch} {e : Env} {s : State} {mth : MethodId} {below : List Frame} {meth : Method} {c : Code} {b nL : Nat} {xs : Nat → Int32} {g : dG} {Q : State → Prop} {H : Heap} {locs : List Loc} {cells slots : Nat} {ls : Array Slot} {i : Int32} {m m9 : dM} (hst : l.stackTraces = false) (S : CallFix p mth c cL_law 8 s #[Value.ref b] wsL_law RL) (hX : va_X b nL xs s s.heap) (hbl : b < s.heap.size) (hbA : ¬ dA g b) (hE : dEnv g s) (hR : cells + 6 ≤ room_1.cells ∧ slots + 36 ≤ room_1.slots) (h : fLaw_11 xs nL i m = some m9) (hP : va_P g.1 vwCl (dws g m) H) (hS : va_S (dA g) s.heap H locs) (hl : lv_has ls 8 [(4, .int i), (0, .ref b), (1, .ref (dad g 0)), (2, .ref (dad g 444)), (3, .ref (dad g 463))])
    (kk : ∀ (H : Heap) (locs : List Loc) (ls : Array Slot) (cells2 slots2 : Nat), cells2 ≤ cells + 6 → slots2 ≤ slots + 36 → va_P g.1 vwCl (dws g m9) H → va_S (dA g) s.heap H locs → lv_has ls 8 [(4, .int i), (0, .ref b), (1, .ref (dad g 0)), (2, .ref (dad g 444)), (3, .ref (dad g 463))] → W p l e room_1 s mth #[Value.ref b] below meth c H locs cells2 slots2 Q (F0 mth 1873 ls [])) : W p l e room_1 s mth #[Value.ref b] below meth c H locs cells slots Q (F0 mth 1015 ls []) := by
  obtain ⟨hR1, hR2⟩ := hR
  unfold fLaw_11 at h
  refine lv_aload_n S.1 S.2.1 dL_law_1015 rfl (lv_at hl 2 rfl) ?_
  refine lv_aload_n S.1 S.2.1 dL_law_1016 rfl (lv_at hl 1 rfl) ?_
  refine lv_iload S.1 S.2.1 dL_law_1017 (lv_at hl 0 rfl) ?_
  refine lv_iconst (v := 1) S.1 S.2.1 dL_law_1019 (by decide) ?_
  refine lv_iadd S.1 S.2.1 dL_law_1020 ?_
  obtain ⟨hi, h⟩ := d_g h
  refine va_sld S.1 S.2.1 hX hbl hbA hS (dIx_in hi) dL_law_1021 ?_
  refine lv_aload_n S.1 S.2.1 dL_law_1022 rfl (lv_at hl 4 rfl) ?_
  obtain ⟨⟨v3, m2⟩, hc1, h⟩ := d_b h
  have h := d_p2 h
  refine dLri (vx_runSX (As := [.ref (dad g 0), .int (xs (Int32.toNatClampNeg (i + 1))), .ref (dad g 463)]) (rest := []) S (kL_walking l g hst hc1) (vx_cwSW 3 S.2.2.2.2 gL_law_L_walking rfl rfl rfl ynL_walking ⟨(Nat.le_of_ble_eq_true rfl), (Nat.le_of_ble_eq_true rfl)⟩) (dpS hE hP hS) rfl rfl hl.1 rfl (lv_room (Nat.le_of_ble_eq_true rfl)) dL_law_1023 ⟨by omega, by omega⟩) hS (fun H locs hP hS => ?_)
  refine lv_istore (lv' := [(5, .int v3), (4, .int i), (0, .ref b), (1, .ref (dad g 0)), (2, .ref (dad g 444)), (3, .ref (dad g 463))]) S.1 S.2.1 dL_law_1026 hl (by decide) rfl (fun ls hl => ?_)
  refine lv_aload_n S.1 S.2.1 dL_law_1028 rfl (lv_at hl 4 rfl) ?_
  refine lv_aload_n S.1 S.2.1 dL_law_1029 rfl (lv_at hl 2 rfl) ?_
  refine lv_iload S.1 S.2.1 dL_law_1030 (lv_at hl 1 rfl) ?_
  refine lv_iconst (v := 1) S.1 S.2.1 dL_law_1032 (by decide) ?_
  refine lv_iadd S.1 S.2.1 dL_law_1033 ?_
  obtain ⟨hi, h⟩ := d_g h
  refine va_sld S.1 S.2.1 hX hbl hbA hS (dIx_in hi) dL_law_1034 ?_
  obtain ⟨⟨v6, m5⟩, hc4, h⟩ := d_b h
  have h := d_p2 h
  refine drj (va_runV (As := [.int (xs (Int32.toNatClampNeg (i + 1)))]) (rest := []) S (kX12_walking l g hc4) (cwV 1 S.2.2.2.2 gL_law_X12_walking rfl rfl rfl ynX12_walking ⟨Nat.le_of_ble_eq_true rfl, Nat.le_of_ble_eq_true rfl⟩) (dpV hE hP hS (ci := 12) rfl (dat13 dk_444)) rfl rfl hl.1 rfl (lv_room (Nat.le_of_ble_eq_true rfl)) dL_law_1035 ⟨by omega, by omega⟩) hS (fun H locs hP hS => ?_)
  refine lv_lstore (lv' := [(6, .long v6), (5, .int v3), (4, .int i), (0, .ref b), (1, .ref (dad g 0)), (2, .ref (dad g 444)), (3, .ref (dad g 463))]) S.1 S.2.1 dL_law_1038 hl (by decide) rfl (fun ls hl => ?_)
  refine lv_aload_n S.1 S.2.1 dL_law_1040 rfl (lv_at hl 5 rfl) ?_
  obtain ⟨v8, hc7, h⟩ := d_b h
  refine dri (va_runV (As := []) (rest := []) S (kX12_thrown l g hc7) (cwV 0 S.2.2.2.2 gL_law_X12_thrown rfl rfl rfl ynX12_thrown ⟨Nat.le_of_ble_eq_true rfl, Nat.le_of_ble_eq_true rfl⟩) (dpV hE hP hS (ci := 12) rfl (dat13 dk_444)) rfl rfl hl.1 rfl (lv_room (Nat.le_of_ble_eq_true rfl)) dL_law_1041 ⟨by omega, by omega⟩) hS (fun H locs hP hS => ?_)
  refine lv_iload S.1 S.2.1 dL_law_1044 (lv_at hl 1 rfl) ?_
  refine lv_icmp_eq (tgt := 1051) S.1 S.2.1 dL_law_1046 (by decide) (fun cq => ?_) (fun cq => ?_)
  · have h := d_t cq h
    refine lv_iload S.1 S.2.1 dL_law_1051 (lv_at hl 1 rfl) ?_
    refine lv_if_ne (tgt := 1067) S.1 S.2.1 dL_law_1053 (by decide) (fun cq => ?_) (fun cq => ?_)
    · have h := d_f cq h
      refine lv_goto (tgt := 1873) S.1 S.2.1 dL_law_1067 (by decide) ?_
      obtain rfl := Option.some.inj h
      exact kk H locs ls _ _ (by omega) (by omega) hP hS (lv_sub hl [2, 3, 4, 5, 6] rfl)
    · have h := d_t cq h
      refine lv_aload_n S.1 S.2.1 dL_law_1056 rfl (lv_at hl 6 rfl) ?_
      refine lv_iconst (v := 0) S.1 S.2.1 dL_law_1057 (by decide) ?_
      obtain ⟨hi, h⟩ := d_g h
      refine d_lald S hE hP dk_463 hi dL_law_1058 ?_
      refine lv_lload S.1 S.2.1 dL_law_1059 (lv_at hl 0 rfl) ?_
      refine W.lcmp S.1 S.2.1 dL_law_1061 ?_
      refine lv_if_eq (tgt := 1067) S.1 S.2.1 dL_law_1062 (by decide) (fun cq => ?_) (fun cq => ?_)
      · have h := d_t cq h
        refine lv_goto (tgt := 1873) S.1 S.2.1 dL_law_1067 (by decide) ?_
        obtain rfl := Option.some.inj h
        exact kk H locs ls _ _ (by omega) (by omega) hP hS (lv_sub hl [2, 3, 4, 5, 6] rfl)
      · have h := d_f cq h
        cases h
  · have h := d_f cq h
    cases h
theorem dL_law_1070 : decode cL_law 1070 = .ok (.aload_n 1, 1) := by decide +kernel
theorem dL_law_1071 : decode cL_law 1071 = .ok (.aload_n 0, 1) := by decide +kernel
theorem dL_law_1072 : decode cL_law 1072 = .ok (.iload 4, 2) := by decide +kernel
theorem dL_law_1074 : decode cL_law 1074 = .ok (.iconst 1, 1) := by decide +kernel
theorem dL_law_1075 : decode cL_law 1075 = .ok (.iadd, 1) := by decide +kernel
theorem dL_law_1076 : decode cL_law 1076 = .ok (.iaload, 1) := by decide +kernel
theorem dL_law_1077 : decode cL_law 1077 = .ok (.aload_n 0, 1) := by decide +kernel
theorem dL_law_1078 : decode cL_law 1078 = .ok (.iload 4, 2) := by decide +kernel
theorem dL_law_1080 : decode cL_law 1080 = .ok (.iconst 2, 1) := by decide +kernel
theorem dL_law_1081 : decode cL_law 1081 = .ok (.iadd, 1) := by decide +kernel
theorem dL_law_1082 : decode cL_law 1082 = .ok (.iaload, 1) := by decide +kernel
theorem dL_law_1083 : decode cL_law 1083 = .ok (.aload_n 0, 1) := by decide +kernel
theorem dL_law_1084 : decode cL_law 1084 = .ok (.iload 4, 2) := by decide +kernel
theorem dL_law_1086 : decode cL_law 1086 = .ok (.iconst 3, 1) := by decide +kernel
theorem dL_law_1087 : decode cL_law 1087 = .ok (.iadd, 1) := by decide +kernel
theorem dL_law_1088 : decode cL_law 1088 = .ok (.iaload, 1) := by decide +kernel
theorem dL_law_1089 : decode cL_law 1089 = .ok (.aload_n 3, 1) := by decide +kernel
theorem dL_law_1090 : decode cL_law 1090 = .ok (.invokestatic 149, 3) := by decide +kernel
theorem dL_law_1093 : decode cL_law 1093 = .ok (.istore 5, 2) := by decide +kernel
theorem dL_law_1095 : decode cL_law 1095 = .ok (.aload_n 2, 1) := by decide +kernel
theorem dL_law_1096 : decode cL_law 1096 = .ok (.aload_n 0, 1) := by decide +kernel
theorem dL_law_1097 : decode cL_law 1097 = .ok (.iload 4, 2) := by decide +kernel
theorem dL_law_1099 : decode cL_law 1099 = .ok (.iconst 1, 1) := by decide +kernel
theorem dL_law_1100 : decode cL_law 1100 = .ok (.iadd, 1) := by decide +kernel
theorem dL_law_1101 : decode cL_law 1101 = .ok (.iaload, 1) := by decide +kernel
theorem dL_law_1102 : decode cL_law 1102 = .ok (.aload_n 0, 1) := by decide +kernel
theorem dL_law_1103 : decode cL_law 1103 = .ok (.iload 4, 2) := by decide +kernel
theorem dL_law_1105 : decode cL_law 1105 = .ok (.iconst 2, 1) := by decide +kernel
theorem dL_law_1106 : decode cL_law 1106 = .ok (.iadd, 1) := by decide +kernel
theorem dL_law_1107 : decode cL_law 1107 = .ok (.iaload, 1) := by decide +kernel
theorem dL_law_1108 : decode cL_law 1108 = .ok (.aload_n 0, 1) := by decide +kernel
theorem dL_law_1109 : decode cL_law 1109 = .ok (.iload 4, 2) := by decide +kernel
theorem dL_law_1111 : decode cL_law 1111 = .ok (.iconst 3, 1) := by decide +kernel
theorem dL_law_1112 : decode cL_law 1112 = .ok (.iadd, 1) := by decide +kernel
theorem dL_law_1113 : decode cL_law 1113 = .ok (.iaload, 1) := by decide +kernel
theorem dL_law_1114 : decode cL_law 1114 = .ok (.invokevirtual 151, 3) := by decide +kernel
theorem dL_law_1117 : decode cL_law 1117 = .ok (.istore 6, 2) := by decide +kernel
theorem dL_law_1119 : decode cL_law 1119 = .ok (.aload_n 2, 1) := by decide +kernel
theorem dL_law_1120 : decode cL_law 1120 = .ok (.invokevirtual 104, 3) := by decide +kernel
theorem dL_law_1123 : decode cL_law 1123 = .ok (.iload 5, 2) := by decide +kernel
theorem dL_law_1125 : decode cL_law 1125 = .ok (.if_icmp .eq 5, 3) := by decide +kernel
theorem dL_law_1128 : decode cL_law 1128 = .ok (.iconst 0, 1) := by decide +kernel
theorem dL_law_1129 : decode cL_law 1129 = .ok (.ireturn, 1) := by decide +kernel
theorem dL_law_1130 : decode cL_law 1130 = .ok (.iload 5, 2) := by decide +kernel
theorem dL_law_1132 : decode cL_law 1132 = .ok (.ifCond .ne 15, 3) := by decide +kernel
theorem dL_law_1135 : decode cL_law 1135 = .ok (.aload_n 3, 1) := by decide +kernel
theorem dL_law_1136 : decode cL_law 1136 = .ok (.iconst 0, 1) := by decide +kernel
theorem dL_law_1137 : decode cL_law 1137 = .ok (.laload, 1) := by decide +kernel
theorem dL_law_1138 : decode cL_law 1138 = .ok (.iload 6, 2) := by decide +kernel
theorem dL_law_1140 : decode cL_law 1140 = .ok (.i2l, 1) := by decide +kernel
theorem dL_law_1141 : decode cL_law 1141 = .ok (.lcmp, 1) := by decide +kernel
theorem dL_law_1142 : decode cL_law 1142 = .ok (.ifCond .eq 5, 3) := by decide +kernel
theorem dL_law_1145 : decode cL_law 1145 = .ok (.iconst 0, 1) := by decide +kernel
theorem dL_law_1146 : decode cL_law 1146 = .ok (.ireturn, 1) := by decide +kernel
theorem dL_law_1147 : decode cL_law 1147 = .ok (.goto 726, 3) := by decide +kernel
def fLaw_12 (xs : Nat → Int32) (nL : Nat) (i : Int32) (m : dM) : Option dM := dg (dIx (i + 1) nL) (dg (dIx (i + 2) nL) (dg (dIx (i + 3) nL) ((fL_at m 0 (xs (Int32.toNatClampNeg (i + 1))) (xs (Int32.toNatClampNeg (i + 2))) (xs (Int32.toNatClampNeg (i + 3))) 463).bind (fun q => dP2 q (fun v3 m2 => dg (dIx (i + 1) nL) (dg (dIx (i + 2) nL) (dg (dIx (i + 3) nL) ((fX12_at m2 444 (xs (Int32.toNatClampNeg (i + 1))) (xs (Int32.toNatClampNeg (i + 2))) (xs (Int32.toNatClampNeg (i + 3)))).bind (fun q => dP2 q (fun v6 m5 => (fX12_thrown m5 444).bind (fun v8 => if v8 = v3 then if v3 = 0 then dg (dIx 0 (dL 463)) (if (lg_cmp (m5.2 463 (Int32.toNatClampNeg (0))) (Int32.toInt64 v6)) = 0 then some m5 else none) else some m5 else none)))))))))))
set_option maxHeartbeats 4000000 in
set_option maxRecDepth 100000 in
theorem kLaw_12 {p : Program} {l : Launch} {e : Env} {s : State} {mth : MethodId} {below : List Frame} {meth : Method} {c : Code} {b nL : Nat} {xs : Nat → Int32} {g : dG} {Q : State → Prop} {H : Heap} {locs : List Loc} {cells slots : Nat} {ls : Array Slot} {i : Int32} {m m9 : dM} (hst : l.stackTraces = false) (S : CallFix p mth c cL_law 8 s #[Value.ref b] wsL_law RL) (hX : va_X b nL xs s s.heap) (hbl : b < s.heap.size) (hbA : ¬ dA g b) (hE : dEnv g s) (hR : cells + 6 ≤ room_1.cells ∧ slots + 36 ≤ room_1.slots) (h : fLaw_12 xs nL i m = some m9) (hP : va_P g.1 vwCl (dws g m) H) (hS : va_S (dA g) s.heap H locs) (hl : lv_has ls 8 [(4, .int i), (0, .ref b), (1, .ref (dad g 0)), (2, .ref (dad g 444)), (3, .ref (dad g 463))])
    (kk : ∀ (H : Heap) (locs : List Loc) (ls : Array Slot) (cells2 slots2 : Nat), cells2 ≤ cells + 6 → slots2 ≤ slots + 36 → va_P g.1 vwCl (dws g m9) H → va_S (dA g) s.heap H locs → lv_has ls 8 [(4, .int i), (0, .ref b), (1, .ref (dad g 0)), (2, .ref (dad g 444)), (3, .ref (dad g 463))] → W p l e room_1 s mth #[Value.ref b] below meth c H locs cells2 slots2 Q (F0 mth 1873 ls [])) : W p l e room_1 s mth #[Value.ref b] below meth c H locs cells slots Q (F0 mth 1070 ls []) := by
  obtain ⟨hR1, hR2⟩ := hR
  unfold fLaw_12 at h
  refine lv_aload_n S.1 S.2.1 dL_law_1070 rfl (lv_at hl 2 rfl) ?_
  refine lv_aload_n S.1 S.2.1 dL_law_1071 rfl (lv_at hl 1 rfl) ?_
  refine lv_iload S.1 S.2.1 dL_law_1072 (lv_at hl 0 rfl) ?_
  refine lv_iconst (v := 1) S.1 S.2.1 dL_law_1074 (by decide) ?_
  refine lv_iadd S.1 S.2.1 dL_law_1075 ?_
  obtain ⟨hi, h⟩ := d_g h
  refine va_sld S.1 S.2.1 hX hbl hbA hS (dIx_in hi) dL_law_1076 ?_
  refine lv_aload_n S.1 S.2.1 dL_law_1077 rfl (lv_at hl 1 rfl) ?_
  refine lv_iload S.1 S.2.1 dL_law_1078 (lv_at hl 0 rfl) ?_
  refine lv_iconst (v := 2) S.1 S.2.1 dL_law_1080 (by decide) ?_
  refine lv_iadd S.1 S.2.1 dL_law_1081 ?_
  obtain ⟨hi, h⟩ := d_g h
  refine va_sld S.1 S.2.1 hX hbl hbA hS (dIx_in hi) dL_law_1082 ?_
  refine lv_aload_n S.1 S.2.1 dL_law_1083 rfl (lv_at hl 1 rfl) ?_
  refine lv_iload S.1 S.2.1 dL_law_1084 (lv_at hl 0 rfl) ?_
  refine lv_iconst (v := 3) S.1 S.2.1 dL_law_1086 (by decide) ?_
  refine lv_iadd S.1 S.2.1 dL_law_1087 ?_
  obtain ⟨hi, h⟩ := d_g h
  refine va_sld S.1 S.2.1 hX hbl hbA hS (dIx_in hi) dL_law_1088 ?_
  refine lv_aload_n S.1 S.2.1 dL_law_1089 rfl (lv_at hl 4 rfl) ?_
  obtain ⟨⟨v3, m2⟩, hc1, h⟩ := d_b h
  have h := d_p2 h
  refine dLri (vx_runSX (As := [.ref (dad g 0), .int (xs (Int32.toNatClampNeg (i + 1))), .int (xs (Int32.toNatClampNeg (i + 2))), .int (xs (Int32.toNatClampNeg (i + 3))), .ref (dad g 463)]) (rest := []) S (kL_at l g hst hc1) (vx_cwSW 5 S.2.2.2.2 gL_law_L_at rfl rfl rfl ynL_at ⟨(Nat.le_of_ble_eq_true rfl), (Nat.le_of_ble_eq_true rfl)⟩) (dpS hE hP hS) rfl rfl hl.1 rfl (lv_room (Nat.le_of_ble_eq_true rfl)) dL_law_1090 ⟨by omega, by omega⟩) hS (fun H locs hP hS => ?_)
  refine lv_istore (lv' := [(5, .int v3), (4, .int i), (0, .ref b), (1, .ref (dad g 0)), (2, .ref (dad g 444)), (3, .ref (dad g 463))]) S.1 S.2.1 dL_law_1093 hl (by decide) rfl (fun ls hl => ?_)
  refine lv_aload_n S.1 S.2.1 dL_law_1095 rfl (lv_at hl 4 rfl) ?_
  refine lv_aload_n S.1 S.2.1 dL_law_1096 rfl (lv_at hl 2 rfl) ?_
  refine lv_iload S.1 S.2.1 dL_law_1097 (lv_at hl 1 rfl) ?_
  refine lv_iconst (v := 1) S.1 S.2.1 dL_law_1099 (by decide) ?_
  refine lv_iadd S.1 S.2.1 dL_law_1100 ?_
  obtain ⟨hi, h⟩ := d_g h
  refine va_sld S.1 S.2.1 hX hbl hbA hS (dIx_in hi) dL_law_1101 ?_
  refine lv_aload_n S.1 S.2.1 dL_law_1102 rfl (lv_at hl 2 rfl) ?_
  refine lv_iload S.1 S.2.1 dL_law_1103 (lv_at hl 1 rfl) ?_
  refine lv_iconst (v := 2) S.1 S.2.1 dL_law_1105 (by decide) ?_
  refine lv_iadd S.1 S.2.1 dL_law_1106 ?_
  obtain ⟨hi, h⟩ := d_g h
  refine va_sld S.1 S.2.1 hX hbl hbA hS (dIx_in hi) dL_law_1107 ?_
  refine lv_aload_n S.1 S.2.1 dL_law_1108 rfl (lv_at hl 2 rfl) ?_
  refine lv_iload S.1 S.2.1 dL_law_1109 (lv_at hl 1 rfl) ?_
  refine lv_iconst (v := 3) S.1 S.2.1 dL_law_1111 (by decide) ?_
  refine lv_iadd S.1 S.2.1 dL_law_1112 ?_
  obtain ⟨hi, h⟩ := d_g h
  refine va_sld S.1 S.2.1 hX hbl hbA hS (dIx_in hi) dL_law_1113 ?_
  obtain ⟨⟨v6, m5⟩, hc4, h⟩ := d_b h
  have h := d_p2 h
  refine dri (va_runV (As := [.int (xs (Int32.toNatClampNeg (i + 1))), .int (xs (Int32.toNatClampNeg (i + 2))), .int (xs (Int32.toNatClampNeg (i + 3)))]) (rest := []) S (kX12_at l g hc4) (cwV 3 S.2.2.2.2 gL_law_X12_at rfl rfl rfl ynX12_at ⟨Nat.le_of_ble_eq_true rfl, Nat.le_of_ble_eq_true rfl⟩) (dpV hE hP hS (ci := 12) rfl (dat13 dk_444)) rfl rfl hl.1 rfl (lv_room (Nat.le_of_ble_eq_true rfl)) dL_law_1114 ⟨by omega, by omega⟩) hS (fun H locs hP hS => ?_)
  refine lv_istore (lv' := [(6, .int v6), (5, .int v3), (4, .int i), (0, .ref b), (1, .ref (dad g 0)), (2, .ref (dad g 444)), (3, .ref (dad g 463))]) S.1 S.2.1 dL_law_1117 hl (by decide) rfl (fun ls hl => ?_)
  refine lv_aload_n S.1 S.2.1 dL_law_1119 rfl (lv_at hl 5 rfl) ?_
  obtain ⟨v8, hc7, h⟩ := d_b h
  refine dri (va_runV (As := []) (rest := []) S (kX12_thrown l g hc7) (cwV 0 S.2.2.2.2 gL_law_X12_thrown rfl rfl rfl ynX12_thrown ⟨Nat.le_of_ble_eq_true rfl, Nat.le_of_ble_eq_true rfl⟩) (dpV hE hP hS (ci := 12) rfl (dat13 dk_444)) rfl rfl hl.1 rfl (lv_room (Nat.le_of_ble_eq_true rfl)) dL_law_1120 ⟨by omega, by omega⟩) hS (fun H locs hP hS => ?_)
  refine lv_iload S.1 S.2.1 dL_law_1123 (lv_at hl 1 rfl) ?_
  refine lv_icmp_eq (tgt := 1130) S.1 S.2.1 dL_law_1125 (by decide) (fun cq => ?_) (fun cq => ?_)
  · have h := d_t cq h
    refine lv_iload S.1 S.2.1 dL_law_1130 (lv_at hl 1 rfl) ?_
    refine lv_if_ne (tgt := 1147) S.1 S.2.1 dL_law_1132 (by decide) (fun cq => ?_) (fun cq => ?_)
    · have h := d_f cq h
      refine lv_goto (tgt := 1873) S.1 S.2.1 dL_law_1147 (by decide) ?_
      obtain rfl := Option.some.inj h
      exact kk H locs ls _ _ (by omega) (by omega) hP hS (lv_sub hl [2, 3, 4, 5, 6] rfl)
    · have h := d_t cq h
      refine lv_aload_n S.1 S.2.1 dL_law_1135 rfl (lv_at hl 6 rfl) ?_
      refine lv_iconst (v := 0) S.1 S.2.1 dL_law_1136 (by decide) ?_
      obtain ⟨hi, h⟩ := d_g h
      refine d_lald S hE hP dk_463 hi dL_law_1137 ?_
      refine lv_iload S.1 S.2.1 dL_law_1138 (lv_at hl 0 rfl) ?_
      refine lv_i2l S.1 S.2.1 dL_law_1140 rfl ?_
      refine W.lcmp S.1 S.2.1 dL_law_1141 ?_
      refine lv_if_eq (tgt := 1147) S.1 S.2.1 dL_law_1142 (by decide) (fun cq => ?_) (fun cq => ?_)
      · have h := d_t cq h
        refine lv_goto (tgt := 1873) S.1 S.2.1 dL_law_1147 (by decide) ?_
        obtain rfl := Option.some.inj h
        exact kk H locs ls _ _ (by omega) (by omega) hP hS (lv_sub hl [2, 3, 4, 5, 6] rfl)
      · have h := d_f cq h
        cases h
  · have h := d_f cq h
    cases h
