/-! who goes where, found by looking at all pairings of two or three; a first fault, by looking at all -/
def zPms : Nat → List (List Nat) | 2 => [[0, 1], [1, 0]] | 3 => [[0, 1, 2], [0, 2, 1], [1, 0, 2], [1, 2, 0], [2, 0, 1], [2, 1, 0]] | _ => []
theorem zPms_ok {N : Nat} (hN : N = 2 ∨ N = 3) {h : Nat → Nat} (hh : zInj N h) : ∃ p ∈ zPms N, ∀ d, d < N → h d = p.getD d 0 := by
  rcases hN with rfl | rfl
  · have k : ∀ a < 2, ∀ b < 2, a ≠ b → [a, b] ∈ zPms 2 := by decide
    refine ⟨[h 0, h 1], k _ (hh.1 0 (by decide)) _ (hh.1 1 (by decide)) (fun q => absurd (hh.2 0 1 (by decide) (by decide) q) (by decide)), fun d hd => ?_⟩
    rcases (show d = 0 ∨ d = 1 by omega) with rfl | rfl <;> rfl
  · have k : ∀ a < 3, ∀ b < 3, ∀ c < 3, a ≠ b → a ≠ c → b ≠ c → [a, b, c] ∈ zPms 3 := by
      intro a ha b hb c hc
      rcases (show a = 0 ∨ a = 1 ∨ a = 2 by omega) with rfl | rfl | rfl <;> rcases (show b = 0 ∨ b = 1 ∨ b = 2 by omega) with rfl | rfl | rfl <;> rcases (show c = 0 ∨ c = 1 ∨ c = 2 by omega) with rfl | rfl | rfl <;> decide
    refine ⟨[h 0, h 1, h 2], k _ (hh.1 0 (by decide)) _ (hh.1 1 (by decide)) _ (hh.1 2 (by decide)) (fun q => absurd (hh.2 0 1 (by decide) (by decide) q) (by decide)) (fun q => absurd (hh.2 0 2 (by decide) (by decide) q) (by decide)) (fun q => absurd (hh.2 1 2 (by decide) (by decide) q) (by decide)), fun d hd => ?_⟩
    rcases (show d = 0 ∨ d = 1 ∨ d = 2 by omega) with rfl | rfl | rfl <;> rfl
def zEqN (f g : Nat → Nat) (N : Nat) : Bool := (List.range N).all fun d => decide (f d = g d)
theorem zEqN_ok {f g : Nat → Nat} {N : Nat} (h : zEqN f g N = true) : ∀ d, d < N → f d = g d := fun d hd => of_decide_eq_true (List.all_eq_true.mp h d (List.mem_range.mpr hd))
def zInB (N : Nat) (g : Nat → Nat) : Bool := (List.range N).all fun d => decide (g d < N) && (List.range N).all fun e => decide (g d = g e → d = e)
theorem zInB_ok {N : Nat} {g : Nat → Nat} (h : zInB N g = true) : zInj N g := by
  have k : ∀ d, d < N → g d < N ∧ ∀ e, e < N → g d = g e → d = e := fun d hd => by
    have := List.all_eq_true.mp h d (List.mem_range.mpr hd)
    rw [Bool.and_eq_true] at this
    exact ⟨of_decide_eq_true this.1, fun e he => of_decide_eq_true (List.all_eq_true.mp this.2 e (List.mem_range.mpr he))⟩
  exact ⟨fun d hd => (k d hd).1, fun d e hd he => (k d hd).2 e he⟩
def zBeB (N : Nat) (w : Nat → Nat → Int) (g : Nat → Nat) : Bool := zInB N g && (zPms N).all fun p => zEqN (fun d => p.getD d 0) g N || decide (zCost N w g < zCost N w (fun d => p.getD d 0))
theorem zBeB_ok {N : Nat} (hN : N = 2 ∨ N = 3) {w : Nat → Nat → Int} {g g2 : Nat → Nat} (h : zBest N w g) (hb : zBeB N w g2 = true) : ∀ d, d < N → g d = g2 d := by
  unfold zBeB at hb
  rw [Bool.and_eq_true] at hb
  have hi := zInB_ok hb.1
  obtain ⟨p, hp, e⟩ := zPms_ok hN h.1
  have q := List.all_eq_true.mp hb.2 p hp
  rw [Bool.or_eq_true] at q
  rcases q with q | q
  · intro d hd
    rw [e d hd]; exact zEqN_ok q d hd
  · have q := of_decide_eq_true q
    have c : zCost N w g = zCost N w (fun d => p.getD d 0) := zSum_congr N (fun d hd => by rw [e d hd])
    rcases h.2 g2 hi with r | r
    · exact fun d hd => (r d hd).symm
    · omega
def zGoB (N P : Nat) (sx sy : Nat → Nat → Int) (so : Nat → Nat) (lt : Nat → Bool) (go : Nat → Nat → Nat) : Bool := (List.range P).all fun i => if 0 < i ∧ lt i = true then zBeB N (zW sx sy so go i) (go i) else zEqN (go i) (fun d => d) N
theorem zGoB_ok {N S P : Nat} {sx sy : Nat → Nat → Int} {so : Nat → Nat} {co te : Nat → Int} {lt : Nat → Bool} {go go2 : Nat → Nat → Nat} (hN : N = 2 ∨ N = 3) (hr : zPr N S P sx sy so co te lt go) (hb : zGoB N P sx sy so lt go2 = true) : ∀ i, i < P → ∀ d, d < N → go i d = go2 i d := by
  have key : ∀ n i, i < n → i < P → ∀ d, d < N → go i d = go2 i d := by
    intro n
    induction n with
    | zero => intro i hi; omega
    | succ n ih =>
      intro i hi hiP
      have q := List.all_eq_true.mp hb i (List.mem_range.mpr hiP)
      have r6 := (hr.2 i hiP).2.2.2.2.2.1
      unfold zGo at r6
      by_cases c : 0 < i ∧ lt i = true
      · rw [if_pos c] at r6 q
        refine zBeB_ok hN (zBest_w r6 (fun d p hd hp => ?_)) q
        unfold zW zX
        rw [ih (i - 1) (by omega) (by omega) d hd]
      · rw [if_neg c] at r6 q
        intro d hd
        rw [r6 d hd]; exact (zEqN_ok q d hd).symm
  exact fun i hi => key P i hi hi
theorem K_goB {N S P pp : Nat} {le kn : Nat → Int} {il io : Nat → Bool} {sx sy : Nat → Nat → Int} {so : Nat → Nat} {co te : Nat → Int} {lt : Nat → Bool} {go : Nat → Nat → Nat} {px py : Nat → Nat → Int} {lo hi : Int} {cap : Nat → Nat → Int} {pen : Nat → Int} {m : dM} (K : zK N S P pp le kn il io sx sy so co te lt go px py lo hi cap pen m) {go2 : Nat → Nat → Nat} (hN : N = 2 ∨ N = 3) (hb : zGoB N P sx sy so lt go2 = true) : zK N S P pp le kn il io sx sy so co te lt go2 px py lo hi cap pen m := K_go K (zGoB_ok hN K.2.2.2.2.1 hb)
def zFiB (F : Nat → Nat → Bool) (co : Nat) : Option (Nat × Nat) → Bool
  | none => (List.range co).all fun c => (List.range 300).all fun n => !F (c + 1) n
  | some (c, n) => decide (1 ≤ c ∧ c ≤ co ∧ n < 300) && F c n && ((List.range (c - 1)).all fun c' => (List.range 300).all fun n => !F (c' + 1) n) && (List.range n).all fun n' => !F c n'
theorem zFiB_row {F : Nat → Nat → Bool} {k M : Nat} (h : ((List.range k).all fun c => (List.range M).all fun n => !F (c + 1) n) = true) : ∀ c, 1 ≤ c → c ≤ k → ∀ n, n < M → F c n = false := fun c c1 c2 n hn => by
  have := List.all_eq_true.mp (List.all_eq_true.mp h (c - 1) (List.mem_range.mpr (by omega))) n (List.mem_range.mpr hn)
  rw [show c - 1 + 1 = c by omega] at this
  simpa using this
theorem zFiB_ok {F : Nat → Nat → Bool} {co : Nat} : ∀ {q : Option (Nat × Nat)}, zFiB F co q = true → zFirst F co q
  | none, h => fun c c1 c2 n hn => zFiB_row (M := 300) h c c1 c2 n hn
  | some (c, n), h => by
    unfold zFiB at h
    rw [Bool.and_eq_true, Bool.and_eq_true, Bool.and_eq_true] at h
    obtain ⟨⟨⟨h1, h2⟩, h3⟩, h4⟩ := h
    have h1 := of_decide_eq_true h1
    refine ⟨h1.1, h1.2.1, h1.2.2, h2, fun c' c1 c2 n' hn => zFiB_row (M := 300) h3 c' c1 (by omega) n' hn, fun n' hn => ?_⟩
    have := List.all_eq_true.mp h4 n' (List.mem_range.mpr hn)
    simpa using this
theorem fault_ok {N S P pp : Nat} {le kn : Nat → Int} {il io : Nat → Bool} {sx sy : Nat → Nat → Int} {so : Nat → Nat} {co te : Nat → Int} {lt : Nat → Bool} {go : Nat → Nat → Nat} {px py : Nat → Nat → Int} {lo hi : Int} {cap : Nat → Nat → Int} {pen : Nat → Int} {m : dM} (K : zK N S P pp le kn il io sx sy so co te lt go px py lo hi cap pen m) {k n : Nat} {qq : Option (Nat × Nat)} (hk : k < P) (hn : co k = n) (hq : zFiB (zFlt N (zMar kn il io) (zMo le (te k)) (zXc (zX sx so go) co k) (zXc (zX sy so go) co k)) n qq = true) {c d e f : Int32} (e0 : Int32.ofInt (zQ qq 0) = c) (e1 : Int32.ofInt (zQ qq 1) = d) (e2 : Int32.ofInt (zQ qq 2) = e) (e3 : Int32.ofInt (zQ qq 3) = f) : ∃ r, fL_fault m (Int32.ofInt (k : Int)) c d e f = some r ∧ zK N S P pp le kn il io sx sy so co te lt go px py lo hi cap pen r := by
  have hq := zFiB_ok hq
  have get : ∀ {m : dM}, (zK N S P pp le kn il io sx sy so co te lt go px py lo hi cap pen m) → ∀ w : Nat, w < 4 → ∃ m', fX11_fault m 0 (Int32.ofInt (k : Int)) (Int32.ofInt (w : Int)) = some (.inr (Int32.ofInt (zQ qq w), m')) ∧ zK N S P pp le kn il io sx sy so co te lt go px py lo hi cap pen m' := fun {m} K w hw => by
    obtain ⟨q2, h2, h3⟩ := K_fault K hk hn
    obtain rfl := zFirst_u hq h2
    exact h3 w hw
  unfold fL_fault
  obtain ⟨m1, h, K⟩ := get K 0 (by decide)
  refine zgoI h e0 ?_
  obtain ⟨m1, h, K⟩ := get K 1 (by decide)
  refine zgoI h e1 ?_
  obtain ⟨m1, h, K⟩ := get K 2 (by decide)
  refine zgoI h e2 ?_
  obtain ⟨m1, h, K⟩ := get K 3 (by decide)
  refine zgoI h e3 ?_
  exact zgoE K
