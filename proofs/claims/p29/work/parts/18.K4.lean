/-! a step of a straight run -/
theorem zgoA {x : Option (Int64 × dM)} {v c : Int64} {m' : dM} {ρ : Type} {F : dM → Option ρ} {R : ρ → Prop} (h : x = some (v, m')) (hc : v = c) (k : ∃ r, F m' = some r ∧ R r) : ∃ r, (x.bind (fun q => dP2 q (fun v m => if (lg_cmp v c) = 0 then F m else none))) = some r ∧ R r := by
  subst hc; subst h
  show ∃ r, (if lg_cmp v v = 0 then F m' else none) = some r ∧ R r
  rw [if_pos (zcmp v)]; exact k
theorem zgoT {x : Option (Int32 × dM)} {v c : Int32} {m' : dM} {ρ : Type} {F : dM → Option ρ} {R : ρ → Prop} (h : x = some (v, m')) (hc : v = c) (k : ∃ r, F m' = some r ∧ R r) : ∃ r, (x.bind (fun q => dP2 q (fun v m => if v = c then F m else none))) = some r ∧ R r := by
  subst hc; subst h
  show ∃ r, (if v = v then F m' else none) = some r ∧ R r
  rw [if_pos rfl]; exact k
theorem zgoI {x : Option ((Nat × dM) ⊕ (Int32 × dM))} {v c : Int32} {m' : dM} {ρ : Type} {F : dM → Option ρ} {R : ρ → Prop} (h : x = some (.inr (v, m'))) (hc : v = c) (k : ∃ r, F m' = some r ∧ R r) : ∃ r, (x.bind (fun q => dS q (fun _ => none) (fun q => dP2 q (fun v m => if v = c then F m else none)))) = some r ∧ R r := by
  subst hc; subst h
  show ∃ r, (if v = v then F m' else none) = some r ∧ R r
  rw [if_pos rfl]; exact k
theorem zgoJ {x : Option ((Nat × dM) ⊕ (Int64 × dM))} {v c : Int64} {m' : dM} {ρ : Type} {F : dM → Option ρ} {R : ρ → Prop} (h : x = some (.inr (v, m'))) (hc : v = c) (k : ∃ r, F m' = some r ∧ R r) : ∃ r, (x.bind (fun q => dS q (fun _ => none) (fun q => dP2 q (fun v m => if (lg_cmp v c) = 0 then F m else none)))) = some r ∧ R r := by
  subst hc; subst h
  show ∃ r, (if lg_cmp v v = 0 then F m' else none) = some r ∧ R r
  rw [if_pos (zcmp v)]; exact k
/-- not 0 -/
theorem zgoN {x : Option ((Nat × dM) ⊕ (Int32 × dM))} {v : Int32} {m' : dM} {ρ : Type} {F : dM → Option ρ} {R : ρ → Prop} (h : x = some (.inr (v, m'))) (hc : ¬ v = 0) (k : ∃ r, F m' = some r ∧ R r) : ∃ r, (x.bind (fun q => dS q (fun _ => none) (fun q => dP2 q (fun v m => if v = 0 then none else F m)))) = some r ∧ R r := by
  subst h
  show ∃ r, (if v = 0 then none else F m') = some r ∧ R r
  rw [if_neg hc]; exact k
theorem zgoG {x : Option (Int32 × dM)} {v : Int32} {m' : dM} {ρ : Type} {F : dM → Option ρ} {R : ρ → Prop} (h : x = some (v, m')) (hc : ¬ v = 0) (k : ∃ r, F m' = some r ∧ R r) : ∃ r, (x.bind (fun q => dP2 q (fun v m => if v = 0 then none else F m))) = some r ∧ R r := by
  subst h
  show ∃ r, (if v = 0 then none else F m') = some r ∧ R r
  rw [if_neg hc]; exact k
theorem zgoP {x : Option Int32} {v c : Int32} {ρ : Type} {F : Option ρ} {R : ρ → Prop} (h : x = some v) (hc : v = c) (k : ∃ r, F = some r ∧ R r) : ∃ r, (x.bind (fun v => if v = c then F else none)) = some r ∧ R r := by
  subst hc; subst h
  show ∃ r, (if v = v then F else none) = some r ∧ R r
  rw [if_pos rfl]; exact k
theorem zgoF {x : Option dM} {m' : dM} {ρ : Type} {F : dM → Option ρ} {R : ρ → Prop} (h : x = some m') (k : ∃ r, F m' = some r ∧ R r) : ∃ r, (x.bind (fun m => F m)) = some r ∧ R r := by
  subst h; exact k
theorem zgoD {x y : Int32} {ρ : Type} {F : Int32 → Option ρ} {R : ρ → Prop} (e : x = y) (k : ∃ r, F y = some r ∧ R r) : ∃ r, (dlet x F) = some r ∧ R r := by
  subst e; exact k
theorem zgoE {ρ : Type} {m' : ρ} {R : ρ → Prop} (k : R m') : ∃ r, some m' = some r ∧ R r := ⟨m', rfl, k⟩
/-! numbers out of their ranges -/
def zNo (w8 w9 : Int32) : Prop := (w8 = 0 ∧ w9 = Int32.ofInt (-1)) ∨ (w8 = 1 ∧ w9 = Int32.ofInt (-2147483648)) ∨ (w8 = 2 ∧ w9 = Int32.ofInt 2147483647) ∨ (w8 = 3 ∧ w9 = Int32.ofInt (-2147483648))
theorem zT1 {w8 w9 x : Int32} (h : zNo w8 w9) (zx : Int) (hx : x = Int32.ofInt zx) : ∃ z : Int, (if w8 = 1 then x else w9) = Int32.ofInt z ∧ (z = zx ∨ z = -1 ∨ z = 2147483647 ∨ z = -2147483648) := by
  rcases h with ⟨rfl, rfl⟩ | ⟨rfl, rfl⟩ | ⟨rfl, rfl⟩ | ⟨rfl, rfl⟩
  · exact ⟨_, if_neg (by decide), by omega⟩
  · exact ⟨zx, by rw [if_pos rfl, hx], by omega⟩
  · exact ⟨_, if_neg (by decide), by omega⟩
  · exact ⟨_, if_neg (by decide), by omega⟩
theorem zT2 {w8 w9 a b : Int32} (h : zNo w8 w9) (za zb : Int) (ha : a = Int32.ofInt za) (hb : b = Int32.ofInt zb) : ∃ z : Int, (if w8 = 0 then a else if w8 = 1 then b else w9) = Int32.ofInt z ∧ (z = za ∨ z = zb ∨ z = 2147483647 ∨ z = -2147483648) := by
  rcases h with ⟨rfl, rfl⟩ | ⟨rfl, rfl⟩ | ⟨rfl, rfl⟩ | ⟨rfl, rfl⟩
  · exact ⟨za, by rw [if_pos rfl, ha], by omega⟩
  · exact ⟨zb, by rw [if_neg (by decide), if_pos rfl, hb], by omega⟩
  · exact ⟨_, by rw [if_neg (by decide), if_neg (by decide)], by omega⟩
  · exact ⟨_, by rw [if_neg (by decide), if_neg (by decide)], by omega⟩
theorem zT3 {w8 w9 a : Int32} {zd : Int} (h : zNo w8 w9) (hd : w8 = 0 ∨ zd ≠ -1) (za : Int) (ha : a = Int32.ofInt za) : ∃ z : Int, (if w8 = 0 then a else Int32.ofInt zd) = Int32.ofInt z ∧ (z = za ∨ (z = zd ∧ zd ≠ -1)) := by
  by_cases c : w8 = 0
  · exact ⟨za, by rw [if_pos c, ha], Or.inl rfl⟩
  · exact ⟨zd, by rw [if_neg c], Or.inr ⟨rfl, by rcases hd with q | q; exact absurd q c; exact q⟩⟩
/-- the range's end and one, or what isn't in it -/
theorem zT1p {w8 w9 : Int32} {p : Int} (h : zNo w8 w9) : ∃ z : Int, (if w8 = 1 then Int32.ofInt p + 1 else w9) = Int32.ofInt z ∧ (z = p + 1 ∨ z = -1 ∨ z = 2147483647 ∨ z = -2147483648) := by
  exact zT1 h (p + 1) (by rw [show (1 : Int32) = Int32.ofInt 1 from rfl, zi_add])
theorem ref94 {N S P pp : Nat} {le kn : Nat → Int} {il io : Nat → Bool} {sx sy : Nat → Nat → Int} {so : Nat → Nat} {co te : Nat → Int} {lt : Nat → Bool} {go : Nat → Nat → Nat} {px py : Nat → Nat → Int} {lo hi : Int} {cap : Nat → Nat → Int} {pen : Nat → Int} {m : dM} (K : zK N S P pp le kn il io sx sy so co te lt go px py lo hi cap pen m) {w8 w9 : Int32} {zd zs zp zc : Int} (hn : zNo w8 w9) (hN : 2 ≤ N ∧ N ≤ 10) (hS : S ≤ 12) (hP : P ≤ 12) (hd : ¬ (0 ≤ zd ∧ zd < (N : Int)) ∧ (-2147483648 ≤ zd ∧ zd < 2147483648)) (hd1 : w8 = 0 ∨ zd ≠ -1) (hs : ¬ (0 ≤ zs ∧ zs < (S : Int)) ∧ (-2147483648 ≤ zs ∧ zs < 2147483648)) (hp : ¬ (0 ≤ zp ∧ zp < (P : Int)) ∧ (-2147483648 ≤ zp ∧ zp < 2147483648)) (hc : 0 < P → zc = co 0) (hc2 : 0 < P → 1 ≤ zc ∧ zc ≤ 64) : ∃ r, fL_ref94 m (Int32.ofInt (N : Int)) (Int32.ofInt (S : Int)) (Int32.ofInt (P : Int)) (Int32.ofInt zc) w8 w9 (Int32.ofInt zd) (Int32.ofInt zs) (Int32.ofInt zp) = some r ∧ zK N S P pp le kn il io sx sy so co te lt go px py lo hi cap pen r := by
  unfold fL_ref94
  obtain ⟨zv1, e, hzv1⟩ := zT2 (a := 1) (b := 11) hn 1 11 rfl rfl
  refine zgoD e ?_
  obtain ⟨m1, e, K⟩ := r0_72 (a := zv1) (b := (0)) (c := (0)) (d := (0)) K (by omega) (by omega)
  refine zgoA e rfl ?_
  clear hzv1
  obtain ⟨m1, e, K⟩ := r1_71 (a := zd) (b := (0)) (c := (0)) (d := (0)) K (by omega) (by omega)
  refine zgoA e rfl ?_
  obtain ⟨zv8, e, hzv8⟩ := zT2 (a := 4) (b := 41) hn 4 41 rfl rfl
  refine zgoD e ?_
  obtain ⟨m1, e, K⟩ := r1_72 (a := (0)) (b := zv8) (c := (0)) (d := (0)) K (by omega) (by omega)
  refine zgoA e rfl ?_
  clear hzv8
  obtain ⟨m1, e, K⟩ := r2_71 (a := zd) (b := (1)) (c := (0)) (d := (0)) K (by omega) (by omega)
  refine zgoA e rfl ?_
  obtain ⟨zv15, e, hzv15⟩ := zT1 (x := 3) hn 3 rfl
  refine zgoD e ?_
  obtain ⟨m1, e, K⟩ := r3_71 (a := zv15) (b := (0)) (c := (0)) (d := (0)) K (by omega) (by omega)
  refine zgoA e rfl ?_
  clear hzv15
  obtain ⟨zv19, e, hzv19⟩ := zT3 (a := (-2)) hn hd1 (-2) rfl
  refine zgoD e ?_
  obtain ⟨m1, e, K⟩ := r3_71 (a := (0)) (b := zv19) (c := (0)) (d := (0)) K (by omega) (by omega)
  refine zgoA e rfl ?_
  clear hzv19
  exact zgoE K
theorem ref256 {N S P pp : Nat} {le kn : Nat → Int} {il io : Nat → Bool} {sx sy : Nat → Nat → Int} {so : Nat → Nat} {co te : Nat → Int} {lt : Nat → Bool} {go : Nat → Nat → Nat} {px py : Nat → Nat → Int} {lo hi : Int} {cap : Nat → Nat → Int} {pen : Nat → Int} {m : dM} (K : zK N S P pp le kn il io sx sy so co te lt go px py lo hi cap pen m) {w8 w9 : Int32} {zd zs zp zc : Int} (hn : zNo w8 w9) (hN : 2 ≤ N ∧ N ≤ 10) (hS : S ≤ 12) (hP : P ≤ 12) (hd : ¬ (0 ≤ zd ∧ zd < (N : Int)) ∧ (-2147483648 ≤ zd ∧ zd < 2147483648)) (hd1 : w8 = 0 ∨ zd ≠ -1) (hs : ¬ (0 ≤ zs ∧ zs < (S : Int)) ∧ (-2147483648 ≤ zs ∧ zs < 2147483648)) (hp : ¬ (0 ≤ zp ∧ zp < (P : Int)) ∧ (-2147483648 ≤ zp ∧ zp < 2147483648)) (hc : 0 < P → zc = co 0) (hc2 : 0 < P → 1 ≤ zc ∧ zc ≤ 64) : ∃ r, fL_ref256 m (Int32.ofInt (N : Int)) (Int32.ofInt (S : Int)) (Int32.ofInt (P : Int)) (Int32.ofInt zc) w8 w9 (Int32.ofInt zd) (Int32.ofInt zs) (Int32.ofInt zp) = some r ∧ zK N S P pp le kn il io sx sy so co te lt go px py lo hi cap pen r := by
  unfold fL_ref256
  obtain ⟨zv1, e, hzv1⟩ := zT1 (x := 1601) hn 1601 rfl
  refine zgoD e ?_
  obtain ⟨m1, e, K⟩ := r4_72 (a := zv1) (b := (0)) (c := (0)) (d := (0)) K (by omega) (by omega)
  refine zgoA e rfl ?_
  clear hzv1
  obtain ⟨zv5, e, hzv5⟩ := zT1 (x := 841) hn 841 rfl
  refine zgoD e ?_
  obtain ⟨m1, e, K⟩ := r4_72 (a := (0)) (b := zv5) (c := (0)) (d := (0)) K (by omega) (by omega)
  refine zgoA e rfl ?_
  clear hzv5
  obtain ⟨zv9, e, hzv9⟩ := zT1 (x := 1601) hn 1601 rfl
  refine zgoD e ?_
  obtain ⟨m1, e, K⟩ := r4_72 (a := (0)) (b := (0)) (c := zv9) (d := (0)) K (by omega) (by omega)
  refine zgoA e rfl ?_
  clear hzv9
  obtain ⟨zv13, e, hzv13⟩ := zT1 (x := 841) hn 841 rfl
  refine zgoD e ?_
  obtain ⟨m1, e, K⟩ := r4_72 (a := (0)) (b := (0)) (c := (0)) (d := zv13) K (by omega) (by omega)
  refine zgoA e rfl ?_
  clear hzv13
  obtain ⟨zv17, e, hzv17⟩ := zT1 (x := 1601) hn 1601 rfl
  refine zgoD e ?_
  obtain ⟨m1, e, K⟩ := r5_72 (a := zv17) (b := (0)) (c := (1)) (d := (1)) K (by omega) (by omega)
  refine zgoA e rfl ?_
  clear hzv17
  exact zgoE K
theorem ref401 {N S P pp : Nat} {le kn : Nat → Int} {il io : Nat → Bool} {sx sy : Nat → Nat → Int} {so : Nat → Nat} {co te : Nat → Int} {lt : Nat → Bool} {go : Nat → Nat → Nat} {px py : Nat → Nat → Int} {lo hi : Int} {cap : Nat → Nat → Int} {pen : Nat → Int} {m : dM} (K : zK N S P pp le kn il io sx sy so co te lt go px py lo hi cap pen m) {w8 w9 : Int32} {zd zs zp zc : Int} (hn : zNo w8 w9) (hN : 2 ≤ N ∧ N ≤ 10) (hS : S ≤ 12) (hP : P ≤ 12) (hd : ¬ (0 ≤ zd ∧ zd < (N : Int)) ∧ (-2147483648 ≤ zd ∧ zd < 2147483648)) (hd1 : w8 = 0 ∨ zd ≠ -1) (hs : ¬ (0 ≤ zs ∧ zs < (S : Int)) ∧ (-2147483648 ≤ zs ∧ zs < 2147483648)) (hp : ¬ (0 ≤ zp ∧ zp < (P : Int)) ∧ (-2147483648 ≤ zp ∧ zp < 2147483648)) (hc : 0 < P → zc = co 0) (hc2 : 0 < P → 1 ≤ zc ∧ zc ≤ 64) : ∃ r, fL_ref401 m (Int32.ofInt (N : Int)) (Int32.ofInt (S : Int)) (Int32.ofInt (P : Int)) (Int32.ofInt zc) w8 w9 (Int32.ofInt zd) (Int32.ofInt zs) (Int32.ofInt zp) = some r ∧ zK N S P pp le kn il io sx sy so co te lt go px py lo hi cap pen r := by
  unfold fL_ref401
  obtain ⟨zv1, e, hzv1⟩ := zT1 (x := 841) hn 841 rfl
  refine zgoD e ?_
  obtain ⟨m1, e, K⟩ := r5_72 (a := (0)) (b := zv1) (c := (1)) (d := (1)) K (by omega) (by omega)
  refine zgoA e rfl ?_
  clear hzv1
  obtain ⟨zv5, e, hzv5⟩ := zT2 (a := 0) (b := 11) hn 0 11 rfl rfl
  refine zgoD e ?_
  obtain ⟨m1, e, K⟩ := r5_72 (a := (0)) (b := (0)) (c := zv5) (d := (1)) K (by omega) (by omega)
  refine zgoA e rfl ?_
  clear hzv5
  obtain ⟨zv9, e, hzv9⟩ := zT2 (a := 0) (b := 401) hn 0 401 rfl rfl
  refine zgoD e ?_
  obtain ⟨m1, e, K⟩ := r5_72 (a := (0)) (b := (0)) (c := (1)) (d := zv9) K (by omega) (by omega)
  refine zgoA e rfl ?_
  clear hzv9
  obtain ⟨zv13, e, hzv13⟩ := zT1 (x := 1601) hn 1601 rfl
  refine zgoD e ?_
  obtain ⟨m1, e, K⟩ := r6_72 (a := zv13) (b := (0)) (c := (1)) (d := (0)) K (by omega) (by omega)
  refine zgoA e rfl ?_
  clear hzv13
  exact zgoE K
theorem ref535 {N S P pp : Nat} {le kn : Nat → Int} {il io : Nat → Bool} {sx sy : Nat → Nat → Int} {so : Nat → Nat} {co te : Nat → Int} {lt : Nat → Bool} {go : Nat → Nat → Nat} {px py : Nat → Nat → Int} {lo hi : Int} {cap : Nat → Nat → Int} {pen : Nat → Int} {m : dM} (K : zK N S P pp le kn il io sx sy so co te lt go px py lo hi cap pen m) {w8 w9 : Int32} {zd zs zp zc : Int} (hn : zNo w8 w9) (hN : 2 ≤ N ∧ N ≤ 10) (hS : S ≤ 12) (hP : P ≤ 12) (hd : ¬ (0 ≤ zd ∧ zd < (N : Int)) ∧ (-2147483648 ≤ zd ∧ zd < 2147483648)) (hd1 : w8 = 0 ∨ zd ≠ -1) (hs : ¬ (0 ≤ zs ∧ zs < (S : Int)) ∧ (-2147483648 ≤ zs ∧ zs < 2147483648)) (hp : ¬ (0 ≤ zp ∧ zp < (P : Int)) ∧ (-2147483648 ≤ zp ∧ zp < 2147483648)) (hc : 0 < P → zc = co 0) (hc2 : 0 < P → 1 ≤ zc ∧ zc ≤ 64) : ∃ r, fL_ref535 m (Int32.ofInt (N : Int)) (Int32.ofInt (S : Int)) (Int32.ofInt (P : Int)) (Int32.ofInt zc) w8 w9 (Int32.ofInt zd) (Int32.ofInt zs) (Int32.ofInt zp) = some r ∧ zK N S P pp le kn il io sx sy so co te lt go px py lo hi cap pen r := by
  unfold fL_ref535
  obtain ⟨zv1, e, hzv1⟩ := zT1 (x := 841) hn 841 rfl
  refine zgoD e ?_
  obtain ⟨m1, e, K⟩ := r6_72 (a := (800)) (b := zv1) (c := (1)) (d := (0)) K (by omega) (by omega)
  refine zgoA e rfl ?_
  clear hzv1
  obtain ⟨zv5, e, hzv5⟩ := zT2 (a := 0) (b := 401) hn 0 401 rfl rfl
  refine zgoD e ?_
  obtain ⟨m1, e, K⟩ := r6_72 (a := (800)) (b := (0)) (c := zv5) (d := (0)) K (by omega) (by omega)
  refine zgoA e rfl ?_
  clear hzv5
  obtain ⟨m1, e, K⟩ := r6_72 (a := (0)) (b := (0)) (c := (1)) (d := (0)) K (by omega) (by omega)
  refine zgoA e rfl ?_
  exact zgoE K
theorem ref632 {N S P pp : Nat} {le kn : Nat → Int} {il io : Nat → Bool} {sx sy : Nat → Nat → Int} {so : Nat → Nat} {co te : Nat → Int} {lt : Nat → Bool} {go : Nat → Nat → Nat} {px py : Nat → Nat → Int} {lo hi : Int} {cap : Nat → Nat → Int} {pen : Nat → Int} {m : dM} (K : zK N S P pp le kn il io sx sy so co te lt go px py lo hi cap pen m) {w8 w9 : Int32} {zd zs zp zc : Int} (hn : zNo w8 w9) (hN : 2 ≤ N ∧ N ≤ 10) (hS : S ≤ 12) (hP : P ≤ 12) (hd : ¬ (0 ≤ zd ∧ zd < (N : Int)) ∧ (-2147483648 ≤ zd ∧ zd < 2147483648)) (hd1 : w8 = 0 ∨ zd ≠ -1) (hs : ¬ (0 ≤ zs ∧ zs < (S : Int)) ∧ (-2147483648 ≤ zs ∧ zs < 2147483648)) (hp : ¬ (0 ≤ zp ∧ zp < (P : Int)) ∧ (-2147483648 ≤ zp ∧ zp < 2147483648)) (hc : 0 < P → zc = co 0) (hc2 : 0 < P → 1 ≤ zc ∧ zc ≤ 64) : ∃ r, fL_ref632 m (Int32.ofInt (N : Int)) (Int32.ofInt (S : Int)) (Int32.ofInt (P : Int)) (Int32.ofInt zc) w8 w9 (Int32.ofInt zd) (Int32.ofInt zs) (Int32.ofInt zp) = some r ∧ zK N S P pp le kn il io sx sy so co te lt go px py lo hi cap pen r := by
  unfold fL_ref632
  obtain ⟨m1, e, K⟩ := r7_71 (a := zs) (b := (0)) (c := (0)) (d := (0)) K (by omega) (by omega)
  refine zgoA e rfl ?_
  obtain ⟨m1, e, K⟩ := r8_71 (a := zp) (b := (0)) (c := (1)) (d := (60)) K (by omega) (by omega)
  refine zgoA e rfl ?_
  obtain ⟨m1, e, K⟩ := r8_71 (a := (0)) (b := zs) (c := (1)) (d := (60)) K (by omega) (by omega)
  refine zgoA e rfl ?_
  obtain ⟨m1, e, K⟩ := r10_71 (a := zp) (b := (0)) (c := (0)) (d := (0)) K (by omega) (by omega)
  refine zgoA e rfl ?_
  obtain ⟨m1, e, K⟩ := r10_71 (a := (0)) (b := zd) (c := (0)) (d := (0)) K (by omega) (by omega)
  refine zgoA e rfl ?_
  obtain ⟨m1, e, K⟩ := r11_71 (a := zp) (b := (0)) (c := (0)) (d := (0)) K (by omega) (by omega)
  refine zgoA e rfl ?_
  obtain ⟨m1, e, K⟩ := r12_71 (a := zp) (b := (-1)) (c := (0)) (d := (0)) K (by omega) (by omega)
  refine zgoA e rfl ?_
  obtain ⟨m1, e, K⟩ := r12_71 (a := (0)) (b := (-1)) (c := zd) (d := (0)) K (by omega) (by omega)
  refine zgoA e rfl ?_
  exact zgoE K
theorem ref783 {N S P pp : Nat} {le kn : Nat → Int} {il io : Nat → Bool} {sx sy : Nat → Nat → Int} {so : Nat → Nat} {co te : Nat → Int} {lt : Nat → Bool} {go : Nat → Nat → Nat} {px py : Nat → Nat → Int} {lo hi : Int} {cap : Nat → Nat → Int} {pen : Nat → Int} {m : dM} (K : zK N S P pp le kn il io sx sy so co te lt go px py lo hi cap pen m) {w8 w9 : Int32} {zd zs zp zc : Int} (hn : zNo w8 w9) (hN : 2 ≤ N ∧ N ≤ 10) (hS : S ≤ 12) (hP : P ≤ 12) (hd : ¬ (0 ≤ zd ∧ zd < (N : Int)) ∧ (-2147483648 ≤ zd ∧ zd < 2147483648)) (hd1 : w8 = 0 ∨ zd ≠ -1) (hs : ¬ (0 ≤ zs ∧ zs < (S : Int)) ∧ (-2147483648 ≤ zs ∧ zs < 2147483648)) (hp : ¬ (0 ≤ zp ∧ zp < (P : Int)) ∧ (-2147483648 ≤ zp ∧ zp < 2147483648)) (hc : 0 < P → zc = co 0) (hc2 : 0 < P → 1 ≤ zc ∧ zc ≤ 64) : ∃ r, fL_ref783 m (Int32.ofInt (N : Int)) (Int32.ofInt (S : Int)) (Int32.ofInt (P : Int)) (Int32.ofInt zc) w8 w9 (Int32.ofInt zd) (Int32.ofInt zs) (Int32.ofInt zp) = some r ∧ zK N S P pp le kn il io sx sy so co te lt go px py lo hi cap pen r := by
  unfold fL_ref783
  obtain ⟨m1, e, K⟩ := r13_71 (a := zp) (b := (9)) (c := (0)) (d := (0)) K (by omega) (by omega)
  refine zgoA e rfl ?_
  obtain ⟨m1, e, K⟩ := r14_71 (a := zp) (b := (0)) (c := (0)) (d := (0)) K (by omega) (by omega)
  refine zgoA e rfl ?_
  obtain ⟨m1, e, K⟩ := r15_71 (a := zp) (b := (0)) (c := (9)) (d := (0)) K (by omega) (by omega)
  refine zgoA e rfl ?_
  obtain ⟨m1, e, K⟩ := r15_71 (a := (0)) (b := zd) (c := (9)) (d := (0)) K (by omega) (by omega)
  refine zgoA e rfl ?_
  obtain ⟨zv13, e, hzv13⟩ := zT1 (x := 10000) hn 10000 rfl
  refine zgoD e ?_
  obtain ⟨m1, e, K⟩ := r16_72 (a := zv13) (b := (10001)) (c := (0)) (d := (0)) K (by omega) (by omega)
  refine zgoA e rfl ?_
  clear hzv13
  obtain ⟨zv17, e, hzv17⟩ := zT2 (a := 4) (b := 10000) hn 4 10000 rfl rfl
  refine zgoD e ?_
  obtain ⟨m1, e, K⟩ := r16_72 (a := (5)) (b := zv17) (c := (0)) (d := (0)) K (by omega) (by omega)
  refine zgoA e rfl ?_
  clear hzv17
  exact zgoE K
theorem ref929 {N S P pp : Nat} {le kn : Nat → Int} {il io : Nat → Bool} {sx sy : Nat → Nat → Int} {so : Nat → Nat} {co te : Nat → Int} {lt : Nat → Bool} {go : Nat → Nat → Nat} {px py : Nat → Nat → Int} {lo hi : Int} {cap : Nat → Nat → Int} {pen : Nat → Int} {m : dM} (K : zK N S P pp le kn il io sx sy so co te lt go px py lo hi cap pen m) {w8 w9 : Int32} {zd zs zp zc : Int} (hn : zNo w8 w9) (hN : 2 ≤ N ∧ N ≤ 10) (hS : S ≤ 12) (hP : P ≤ 12) (hd : ¬ (0 ≤ zd ∧ zd < (N : Int)) ∧ (-2147483648 ≤ zd ∧ zd < 2147483648)) (hd1 : w8 = 0 ∨ zd ≠ -1) (hs : ¬ (0 ≤ zs ∧ zs < (S : Int)) ∧ (-2147483648 ≤ zs ∧ zs < 2147483648)) (hp : ¬ (0 ≤ zp ∧ zp < (P : Int)) ∧ (-2147483648 ≤ zp ∧ zp < 2147483648)) (hc : 0 < P → zc = co 0) (hc2 : 0 < P → 1 ≤ zc ∧ zc ≤ 64) : ∃ r, fL_ref929 m (Int32.ofInt (N : Int)) (Int32.ofInt (S : Int)) (Int32.ofInt (P : Int)) (Int32.ofInt zc) w8 w9 (Int32.ofInt zd) (Int32.ofInt zs) (Int32.ofInt zp) = some r ∧ zK N S P pp le kn il io sx sy so co te lt go px py lo hi cap pen r := by
  unfold fL_ref929
  obtain ⟨zv1, e, hzv1⟩ := zT1 (x := 6) hn 6 rfl
  refine zgoD e ?_
  obtain ⟨m1, e, K⟩ := r17_71 (a := zv1) (b := (0)) (c := (-1)) (d := (0)) K (by omega) (by omega)
  refine zgoA e rfl ?_
  clear hzv1
  obtain ⟨zv5, e, hzv5⟩ := zT1 (x := 4) hn 4 rfl
  refine zgoD e ?_
  obtain ⟨m1, e, K⟩ := r17_71 (a := (0)) (b := zv5) (c := (-1)) (d := (0)) K (by omega) (by omega)
  refine zgoA e rfl ?_
  clear hzv5
  obtain ⟨zv9, e, hzv9⟩ := zT1 (x := 1001) hn 1001 rfl
  refine zgoD e ?_
  obtain ⟨m1, e, K⟩ := r17_72 (a := (0)) (b := (0)) (c := zv9) (d := (0)) K (by omega) (by omega)
  refine zgoA e rfl ?_
  clear hzv9
  obtain ⟨zv13, e, hzv13⟩ := zT1 (x := 6) hn 6 rfl
  refine zgoD e ?_
  obtain ⟨m1, e, K⟩ := r18_71 (a := zv13) (b := (-1)) (c := (0)) (d := (0)) K (by omega) (by omega)
  refine zgoA e rfl ?_
  clear hzv13
  obtain ⟨zv17, e, hzv17⟩ := zT1 (x := 1001) hn 1001 rfl
  refine zgoD e ?_
  obtain ⟨m1, e, K⟩ := r18_72 (a := (0)) (b := zv17) (c := (0)) (d := (0)) K (by omega) (by omega)
  refine zgoA e rfl ?_
  clear hzv17
  exact zgoE K
theorem ref1075 {N S P pp : Nat} {le kn : Nat → Int} {il io : Nat → Bool} {sx sy : Nat → Nat → Int} {so : Nat → Nat} {co te : Nat → Int} {lt : Nat → Bool} {go : Nat → Nat → Nat} {px py : Nat → Nat → Int} {lo hi : Int} {cap : Nat → Nat → Int} {pen : Nat → Int} {m : dM} (K : zK N S P pp le kn il io sx sy so co te lt go px py lo hi cap pen m) {w8 w9 : Int32} {zd zs zp zc : Int} (hn : zNo w8 w9) (hN : 2 ≤ N ∧ N ≤ 10) (hS : S ≤ 12) (hP : P ≤ 12) (hd : ¬ (0 ≤ zd ∧ zd < (N : Int)) ∧ (-2147483648 ≤ zd ∧ zd < 2147483648)) (hd1 : w8 = 0 ∨ zd ≠ -1) (hs : ¬ (0 ≤ zs ∧ zs < (S : Int)) ∧ (-2147483648 ≤ zs ∧ zs < 2147483648)) (hp : ¬ (0 ≤ zp ∧ zp < (P : Int)) ∧ (-2147483648 ≤ zp ∧ zp < 2147483648)) (hc : 0 < P → zc = co 0) (hc2 : 0 < P → 1 ≤ zc ∧ zc ≤ 64) : ∃ r, fL_ref1075 m (Int32.ofInt (N : Int)) (Int32.ofInt (S : Int)) (Int32.ofInt (P : Int)) (Int32.ofInt zc) w8 w9 (Int32.ofInt zd) (Int32.ofInt zs) (Int32.ofInt zp) = some r ∧ zK N S P pp le kn il io sx sy so co te lt go px py lo hi cap pen r := by
  unfold fL_ref1075
  obtain ⟨zv1, e, hzv1⟩ := zT1 (x := 6) hn 6 rfl
  refine zgoD e ?_
  obtain ⟨m1, e, K⟩ := r19_72 (a := zv1) (b := (0)) (c := (0)) (d := (0)) K (by omega) (by omega)
  refine zgoA e rfl ?_
  clear hzv1
  obtain ⟨zv5, e, hzv5⟩ := zT2 (a := 0) (b := 10000) hn 0 10000 rfl rfl
  refine zgoD e ?_
  obtain ⟨m1, e, K⟩ := r20_72 (a := zv5) (b := (0)) (c := (0)) (d := (0)) K (by omega) (by omega)
  refine zgoA e rfl ?_
  clear hzv5
  obtain ⟨zv9, e, hzv9⟩ := zT1 (x := 61) hn 61 rfl
  refine zgoD e ?_
  obtain ⟨m1, e, K⟩ := r20_72 (a := (1)) (b := zv9) (c := (0)) (d := (0)) K (by omega) (by omega)
  refine zgoA e rfl ?_
  clear hzv9
  obtain ⟨m1, e, K⟩ := rt_71 (a := zp) (b := (0)) (c := (0)) (d := (0)) (e := (0)) K (by omega) (by omega)
  refine zgoT e rfl ?_
  obtain ⟨m1, e, K⟩ := rt_71 (a := (0)) (b := (0)) (c := zd) (d := (0)) (e := (0)) K (by omega) (by omega)
  refine zgoT e rfl ?_
  exact zgoE K
theorem ref1209 {N S P pp : Nat} {le kn : Nat → Int} {il io : Nat → Bool} {sx sy : Nat → Nat → Int} {so : Nat → Nat} {co te : Nat → Int} {lt : Nat → Bool} {go : Nat → Nat → Nat} {px py : Nat → Nat → Int} {lo hi : Int} {cap : Nat → Nat → Int} {pen : Nat → Int} {m : dM} (K : zK N S P pp le kn il io sx sy so co te lt go px py lo hi cap pen m) {w8 w9 : Int32} {zd zs zp zc : Int} (hn : zNo w8 w9) (hN : 2 ≤ N ∧ N ≤ 10) (hS : S ≤ 12) (hP : P ≤ 12) (hd : ¬ (0 ≤ zd ∧ zd < (N : Int)) ∧ (-2147483648 ≤ zd ∧ zd < 2147483648)) (hd1 : w8 = 0 ∨ zd ≠ -1) (hs : ¬ (0 ≤ zs ∧ zs < (S : Int)) ∧ (-2147483648 ≤ zs ∧ zs < 2147483648)) (hp : ¬ (0 ≤ zp ∧ zp < (P : Int)) ∧ (-2147483648 ≤ zp ∧ zp < 2147483648)) (hc : 0 < P → zc = co 0) (hc2 : 0 < P → 1 ≤ zc ∧ zc ≤ 64) : ∃ r, fL_ref1209 m (Int32.ofInt (N : Int)) (Int32.ofInt (S : Int)) (Int32.ofInt (P : Int)) (Int32.ofInt zc) w8 w9 (Int32.ofInt zd) (Int32.ofInt zs) (Int32.ofInt zp) = some r ∧ zK N S P pp le kn il io sx sy so co te lt go px py lo hi cap pen r := by
  unfold fL_ref1209
  by_cases c0 : S = 0
  · subst c0
    rw [if_pos (show Int32.ofInt ((0 : Nat) : Int) = 0 from rfl)]
    exact zgoE K
  rw [if_neg (show ¬ Int32.ofInt (S : Int) = 0 by rw [show (0 : Int32) = Int32.ofInt 0 from rfl, zi_eq (by omega) (by omega) (by omega) (by omega)]; omega)]
  obtain ⟨m1, e, K⟩ := r0_73 (a := (4)) (b := (0)) (c := (0)) (d := (0)) K (by omega) (by omega)
  refine zgoA e rfl ?_
  obtain ⟨zv4, e, hzv4⟩ := zT2 (a := 0) (b := 65) hn 0 65 rfl rfl
  refine zgoD e ?_
  obtain ⟨m1, e, K⟩ := r7_72 (a := (0)) (b := zv4) (c := (60)) (d := (0)) K (by omega) (by omega)
  refine zgoA e rfl ?_
  clear hzv4
  obtain ⟨zv8, e, hzv8⟩ := zT2 (a := 59) (b := 241) hn 59 241 rfl rfl
  refine zgoD e ?_
  obtain ⟨m1, e, K⟩ := r7_72 (a := (0)) (b := (1)) (c := zv8) (d := (0)) K (by omega) (by omega)
  refine zgoA e rfl ?_
  clear hzv8
  exact zgoE K
theorem ref1313 {N S P pp : Nat} {le kn : Nat → Int} {il io : Nat → Bool} {sx sy : Nat → Nat → Int} {so : Nat → Nat} {co te : Nat → Int} {lt : Nat → Bool} {go : Nat → Nat → Nat} {px py : Nat → Nat → Int} {lo hi : Int} {cap : Nat → Nat → Int} {pen : Nat → Int} {m : dM} (K : zK N S P pp le kn il io sx sy so co te lt go px py lo hi cap pen m) {w8 w9 : Int32} {zd zs zp zc : Int} (hn : zNo w8 w9) (hN : 2 ≤ N ∧ N ≤ 10) (hS : S ≤ 12) (hP : P ≤ 12) (hd : ¬ (0 ≤ zd ∧ zd < (N : Int)) ∧ (-2147483648 ≤ zd ∧ zd < 2147483648)) (hd1 : w8 = 0 ∨ zd ≠ -1) (hs : ¬ (0 ≤ zs ∧ zs < (S : Int)) ∧ (-2147483648 ≤ zs ∧ zs < 2147483648)) (hp : ¬ (0 ≤ zp ∧ zp < (P : Int)) ∧ (-2147483648 ≤ zp ∧ zp < 2147483648)) (hc : 0 < P → zc = co 0) (hc2 : 0 < P → 1 ≤ zc ∧ zc ≤ 64) : ∃ r, fL_ref1313 m (Int32.ofInt (N : Int)) (Int32.ofInt (S : Int)) (Int32.ofInt (P : Int)) (Int32.ofInt zc) w8 w9 (Int32.ofInt zd) (Int32.ofInt zs) (Int32.ofInt zp) = some r ∧ zK N S P pp le kn il io sx sy so co te lt go px py lo hi cap pen r := by
  unfold fL_ref1313
  by_cases c0 : P = 0
  · subst c0
    rw [if_pos (show Int32.ofInt ((0 : Nat) : Int) = 0 from rfl)]
    exact zgoE K
  rw [if_neg (show ¬ Int32.ofInt (P : Int) = 0 by rw [show (0 : Int32) = Int32.ofInt 0 from rfl, zi_eq (by omega) (by omega) (by omega) (by omega)]; omega)]
  have hS0 := (K.2.2.2.2.1.2 0 (by omega)).1
  obtain ⟨zv1, e, hzv1⟩ := zT2 (a := 0) (b := 65) hn 0 65 rfl rfl
  refine zgoD e ?_
  obtain ⟨m1, e, K⟩ := r8_72 (a := (0)) (b := (0)) (c := zv1) (d := (60)) K (by omega) (by omega)
  refine zgoA e rfl ?_
  clear hzv1
  obtain ⟨zv5, e, hzv5⟩ := zT2 (a := 59) (b := 241) hn 59 241 rfl rfl
  refine zgoD e ?_
  obtain ⟨m1, e, K⟩ := r8_72 (a := (0)) (b := (0)) (c := (1)) (d := zv5) K (by omega) (by omega)
  refine zgoA e rfl ?_
  clear hzv5
  obtain ⟨zv9, e, hzv9⟩ := zT1p (p := zc) hn
  refine zgoD e ?_
  obtain ⟨m1, e, K⟩ := r12_72 (a := (0)) (b := zv9) (c := (0)) (d := (0)) K (by omega) (by have := hc (by omega); have := hc2 (by omega); simp only [Int.toNat_zero, Int.toNat_natCast]; omega)
  refine zgoA e rfl ?_
  clear hzv9
  obtain ⟨zv13, e, hzv13⟩ := zT1 (x := 4) hn 4 rfl
  refine zgoD e ?_
  obtain ⟨m1, e, K⟩ := r13_72 (a := (0)) (b := zv13) (c := (0)) (d := (0)) K (by omega) (by omega)
  refine zgoA e rfl ?_
  clear hzv13
  obtain ⟨zv17, e, hzv17⟩ := zT1p (p := zc) hn
  refine zgoD e ?_
  obtain ⟨m1, e, K⟩ := r14_72 (a := (0)) (b := zv17) (c := (0)) (d := (-1)) K (by omega) (by have := hc (by omega); have := hc2 (by omega); simp only [Int.toNat_zero, Int.toNat_natCast]; omega)
  refine zgoA e rfl ?_
  clear hzv17
  obtain ⟨zv21, e, hzv21⟩ := zT1 (x := 1601) hn 1601 rfl
  refine zgoD e ?_
  obtain ⟨m1, e, K⟩ := r14_72 (a := (0)) (b := (0)) (c := zv21) (d := (-1)) K (by omega) (by have := hc (by omega); have := hc2 (by omega); simp only [Int.toNat_zero, Int.toNat_natCast]; omega)
  refine zgoA e rfl ?_
  clear hzv21
  obtain ⟨zv25, e, hzv25⟩ := zT2 (a := 0) (b := (-1001)) hn 0 (-1001) rfl rfl
  refine zgoD e ?_
  obtain ⟨m1, e, K⟩ := r14_72 (a := (0)) (b := (0)) (c := (0)) (d := zv25) K (by omega) (by have := hc (by omega); have := hc2 (by omega); simp only [Int.toNat_zero, Int.toNat_natCast]; omega)
  refine zgoA e rfl ?_
  clear hzv25
  obtain ⟨zv29, e, hzv29⟩ := zT1 (x := 4) hn 4 rfl
  refine zgoD e ?_
  obtain ⟨m1, e, K⟩ := r15_72 (a := (0)) (b := (0)) (c := zv29) (d := (0)) K (by omega) (by omega)
  refine zgoA e rfl ?_
  clear hzv29
  obtain ⟨zv33, e, hzv33⟩ := zT1p (p := zc) hn
  refine zgoD e ?_
  obtain ⟨m1, e, K⟩ := rt_72 (a := (0)) (b := zv33) (c := (0)) (d := (1)) (e := (0)) K (by omega) (by have := hc (by omega); have := hc2 (by omega); simp only [Int.toNat_zero, Int.toNat_natCast]; omega)
  refine zgoT e rfl ?_
  clear hzv33
  obtain ⟨zv37, e, hzv37⟩ := zT2 (a := 0) (b := 10) hn 0 10 rfl rfl
  refine zgoD e ?_
  obtain ⟨m1, e, K⟩ := rt_72 (a := (0)) (b := (0)) (c := (0)) (d := zv37) (e := (0)) K (by omega) (by have := hc (by omega); have := hc2 (by omega); simp only [Int.toNat_zero, Int.toNat_natCast]; omega)
  refine zgoT e rfl ?_
  clear hzv37
  obtain ⟨zv41, e, hzv41⟩ := zT2 (a := (-21)) (b := 21) hn (-21) 21 rfl rfl
  refine zgoD e ?_
  obtain ⟨m1, e, K⟩ := rt_72 (a := (0)) (b := (0)) (c := (0)) (d := (1)) (e := zv41) K (by omega) (by have := hc (by omega); have := hc2 (by omega); simp only [Int.toNat_zero, Int.toNat_natCast]; omega)
  refine zgoT e rfl ?_
  clear hzv41
  exact zgoE K
theorem refB {N S P pp : Nat} {le kn : Nat → Int} {il io : Nat → Bool} {sx sy : Nat → Nat → Int} {so : Nat → Nat} {co te : Nat → Int} {lt : Nat → Bool} {go : Nat → Nat → Nat} {px py : Nat → Nat → Int} {lo hi : Int} {cap : Nat → Nat → Int} {pen : Nat → Int} {m : dM} (K : zK N S P pp le kn il io sx sy so co te lt go px py lo hi cap pen m) {w8 : Int32} {zc : Int} (h8 : w8 = 0 ∨ w8 = 1 ∨ w8 = 2 ∨ w8 = 3) (hc : 0 < P → zc = co 0) : ∃ r, fL_refB m (Int32.ofInt (N : Int)) (Int32.ofInt (S : Int)) (Int32.ofInt (P : Int)) (Int32.ofInt zc) w8 = some r ∧ zK N S P pp le kn il io sx sy so co te lt go px py lo hi cap pen r := by
  have hN : 2 ≤ N ∧ N ≤ 10 := ⟨K.1.1, K.1.2.1⟩
  have hS := K.2.2.1.1
  have hP := K.2.2.2.2.1.1
  have hc2 : 0 < P → 1 ≤ zc ∧ zc ≤ 64 := fun q => by
    have := K.2.2.2.2.1.2 0 q
    rw [hc q]; exact ⟨this.2.1, this.2.2.1⟩
  unfold fL_refB
  obtain ⟨w9, hw9⟩ : ∃ z : Int32, z = (if w8 = 0 then (-1) else if w8 = 2 then 2147483647 else (-2147483647) - 1 : Int32) := ⟨_, rfl⟩
  refine zgoD hw9.symm ?_
  have hn : zNo w8 w9 := by
    rcases h8 with rfl | rfl | rfl | rfl
    · exact Or.inl ⟨rfl, by rw [hw9]; decide⟩
    · exact Or.inr (Or.inl ⟨rfl, by rw [hw9]; decide⟩)
    · exact Or.inr (Or.inr (Or.inl ⟨rfl, by rw [hw9]; decide⟩))
    · exact Or.inr (Or.inr (Or.inr ⟨rfl, by rw [hw9]; decide⟩))
  have h1 : ∀ n : Nat, n ≤ 12 → ∃ z : Int, (if w8 = 1 then Int32.ofInt (n : Int) else w9) = Int32.ofInt z ∧ (¬ (0 ≤ z ∧ z < (n : Int)) ∧ (-2147483648 ≤ z ∧ z < 2147483648)) ∧ (w8 = 0 ∨ z ≠ -1) := fun n hn12 => by
    rcases hn with ⟨rfl, rfl⟩ | ⟨rfl, rfl⟩ | ⟨rfl, rfl⟩ | ⟨rfl, rfl⟩
    · exact ⟨-1, if_neg (by decide), by omega, Or.inl rfl⟩
    · exact ⟨n, if_pos rfl, by omega, Or.inr (by omega)⟩
    · exact ⟨2147483647, if_neg (by decide), by omega, Or.inr (by omega)⟩
    · exact ⟨-2147483648, if_neg (by decide), by omega, Or.inr (by omega)⟩
  obtain ⟨zd, e1, hd, hd1⟩ := h1 N (by omega)
  refine zgoD e1 ?_
  obtain ⟨zs, e2, hs, -⟩ := h1 S hS
  refine zgoD e2 ?_
  obtain ⟨zp, e3, hp, -⟩ := h1 P hP
  refine zgoD e3 ?_
  obtain ⟨m1, e, K⟩ := ref94 K hn hN hS hP hd hd1 hs hp hc hc2
  refine zgoF e ?_
  obtain ⟨m1, e, K⟩ := ref256 K hn hN hS hP hd hd1 hs hp hc hc2
  refine zgoF e ?_
  obtain ⟨m1, e, K⟩ := ref401 K hn hN hS hP hd hd1 hs hp hc hc2
  refine zgoF e ?_
  obtain ⟨m1, e, K⟩ := ref535 K hn hN hS hP hd hd1 hs hp hc hc2
  refine zgoF e ?_
  obtain ⟨m1, e, K⟩ := ref632 K hn hN hS hP hd hd1 hs hp hc hc2
  refine zgoF e ?_
  obtain ⟨m1, e, K⟩ := ref783 K hn hN hS hP hd hd1 hs hp hc hc2
  refine zgoF e ?_
  obtain ⟨m1, e, K⟩ := ref929 K hn hN hS hP hd hd1 hs hp hc hc2
  refine zgoF e ?_
  obtain ⟨m1, e, K⟩ := ref1075 K hn hN hS hP hd hd1 hs hp hc hc2
  refine zgoF e ?_
  obtain ⟨m1, e, K⟩ := ref1209 K hn hN hS hP hd hd1 hs hp hc hc2
  refine zgoF e ?_
  obtain ⟨m1, e, K⟩ := ref1313 K hn hN hS hP hd hd1 hs hp hc hc2
  refine zgoF e ?_
  exact zgoE K
/-- what there is not is refused, and nothing changes -/
theorem refuses_ok {N S P pp : Nat} {le kn : Nat → Int} {il io : Nat → Bool} {sx sy : Nat → Nat → Int} {so : Nat → Nat} {co te : Nat → Int} {lt : Nat → Bool} {go : Nat → Nat → Nat} {px py : Nat → Nat → Int} {lo hi : Int} {cap : Nat → Nat → Int} {pen : Nat → Int} {m : dM} (K : zK N S P pp le kn il io sx sy so co te lt go px py lo hi cap pen m) {zc : Int} (hc : 0 < P → zc = co 0) : ∃ r, fL_refuses m (Int32.ofInt (N : Int)) (Int32.ofInt (S : Int)) (Int32.ofInt (P : Int)) (Int32.ofInt zc) = some r ∧ zK N S P pp le kn il io sx sy so co te lt go px py lo hi cap pen r := by
  unfold fL_refuses
  rw [K_lasts K, Option.bind_some, K_changed K, Option.bind_some]
  obtain ⟨m1, e, K⟩ := refB (w8 := 0) K (Or.inl rfl) hc
  refine zgoF e ?_
  obtain ⟨m1, e, K⟩ := refB (w8 := 1) K (Or.inr (Or.inl rfl)) hc
  refine zgoF e ?_
  obtain ⟨m1, e, K⟩ := refB (w8 := 2) K (Or.inr (Or.inr (Or.inl rfl))) hc
  refine zgoF e ?_
  obtain ⟨m1, e, K⟩ := refB (w8 := 3) K (Or.inr (Or.inr (Or.inr rfl))) hc
  refine zgoF e ?_
  refine zgoP (K_lasts K) rfl ?_
  refine zgoP (K_changed K) rfl ?_
  exact zgoE K
