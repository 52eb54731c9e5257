/-! three rows more -/
theorem zSum_bd {f : Nat → Int} {M : Int} : ∀ n : Nat, (∀ d, d < n → 0 ≤ f d ∧ f d ≤ M) → 0 ≤ zSum f n ∧ zSum f n ≤ (n : Int) * M
  | 0, _ => by simp [zSum]
  | n + 1, h => by
    have h1 := zSum_bd n (fun d hd => h d (by omega))
    have h2 := h n (by omega)
    have e : ((n + 1 : Nat) : Int) * M = (n : Int) * M + M := by rw [Int.natCast_add, Int.add_mul]; simp
    show 0 ≤ zSum f n + f n ∧ zSum f n + f n ≤ ((n + 1 : Nat) : Int) * M
    rw [e]
    omega
theorem zWk_in {N S P : Nat} {sx sy : Nat → Nat → Int} {so : Nat → Nat} {co te : Nat → Int} {lt : Nat → Bool} {go : Nat → Nat → Nat} (hN : N ≤ 10) (hs : zSr N S sx sy) (hr : zPr N S P sx sy so co te lt go) {i : Nat} (hi : i < P) : 0 ≤ zWk sx sy so go i N ∧ zWk sx sy so go i N ≤ 51200000 := by
  have h := zSum_bd (f := fun d => zSq (zX sx so go i d) (zX sy so go i d) (zX sx so go (i - 1) d) (zX sy so go (i - 1) d)) (M := 5120000) N (fun d hd => by
    obtain ⟨b1, b2⟩ := zX_in hs hr hi hd
    obtain ⟨b3, b4⟩ := zX_in hs hr (show i - 1 < P by omega) hd
    exact zSq_in b1.1 b1.2 b2.1 (by omega) b3.1 b3.2 b4.1 (by omega))
  unfold zWk
  omega
theorem zWk_0 {N : Nat} {sx sy : Nat → Nat → Int} {so : Nat → Nat} {go : Nat → Nat → Nat} : zWk sx sy so go 0 N = 0 := by
  unfold zWk
  rw [zSum_congr (g := fun _ => 0) N (fun d _ => by unfold zSq; simp), zSum_0]
theorem zAllCh_same {N P : Nat} {X Y : Nat → Nat → Int} : zAllCh N P P X Y X Y 10 12 = 0 := by
  have h : ∀ i d, zChg N P P X Y X Y i d = 0 := fun i d => by
    unfold zChg
    by_cases q : i < P ∧ d < N
    · rw [if_pos q, if_pos q, if_pos ⟨rfl, rfl⟩]
    · rw [if_neg q, if_neg q]
  unfold zAllCh
  rw [zSum_congr (g := fun _ => 0) 12 (fun i _ => by
    unfold zRow
    rw [zSum_congr (g := fun _ => 0) 10 (fun d _ => h i d), zSum_0]), zSum_0]
