/-! words of one list among another's, by their places: codes are compared byte by byte, in one run -/
def bSame : List UInt8 → List UInt8 → Bool
  | [], [] => true
  | a :: s, b :: t => cond (Nat.beq a.toNat b.toNat) (bSame s t) false
  | _, _ => false
theorem bSame_ok : ∀ {s t : List UInt8}, bSame s t = true → s = t
  | [], [], _ => rfl
  | [], b :: t, h => absurd (show false = true from h) (by decide)
  | a :: s, [], h => absurd (show false = true from h) (by decide)
  | a :: s, b :: t, h => by
    have h : cond (Nat.beq a.toNat b.toNat) (bSame s t) false = true := h
    cases q : Nat.beq a.toNat b.toNat with
    | false => rw [q] at h; exact absurd (show false = true from h) (by decide)
    | true =>
      rw [q] at h
      rw [UInt8.toNat_inj.mp (Nat.eq_of_beq_eq_true q), bSame_ok (show bSame s t = true from h)]
def oSame : Option (List UInt8) → Option (List UInt8) → Bool
  | none, none => true
  | some s, some t => bSame s t
  | _, _ => false
theorem oSame_ok : ∀ {s t : Option (List UInt8)}, oSame s t = true → s = t
  | none, none, _ => rfl
  | none, some t, h => absurd (show false = true from h) (by decide)
  | some s, none, h => absurd (show false = true from h) (by decide)
  | some s, some t, h => by rw [bSame_ok (show bSame s t = true from h)]
def cKey : Cond → Option (List UInt8) × Cond
  | .code x b l r => (some b.data.toList, .code x ⟨#[]⟩ l r)
  | .codeWith x b l r h => (some b.data.toList, .codeWith x ⟨#[]⟩ l r h)
  | c => (none, c)
def cBack : Option (List UInt8) × Cond → Cond
  | (some s, .code x _ l r) => .code x ⟨⟨s⟩⟩ l r
  | (some s, .codeWith x _ l r h) => .codeWith x ⟨⟨s⟩⟩ l r h
  | (_, c) => c
theorem cBack_key (c : Cond) : cBack (cKey c) = c := by cases c <;> rfl
def cSame (a b : Cond) : Bool := cond (oSame (cKey a).1 (cKey b).1) (decide ((cKey a).2 = (cKey b).2)) false
theorem cSame_ok {a b : Cond} (h : cSame a b = true) : a = b := by
  unfold cSame at h
  cases q : oSame (cKey a).1 (cKey b).1 with
  | false => rw [q] at h; exact absurd (show false = true from h) (by decide)
  | true =>
    rw [q] at h
    have e : cKey a = cKey b := Prod.ext (oSame_ok q) (of_decide_eq_true (show decide ((cKey a).2 = (cKey b).2) = true from h))
    rw [← cBack_key a, e, cBack_key b]
def lSame : List Cond → List Cond → Bool
  | [], [] => true
  | a :: s, b :: t => cond (cSame a b) (lSame s t) false
  | _, _ => false
theorem lSame_ok : ∀ {s t : List Cond}, lSame s t = true → s = t
  | [], [], _ => rfl
  | [], b :: t, h => absurd (show false = true from h) (by decide)
  | a :: s, [], h => absurd (show false = true from h) (by decide)
  | a :: s, b :: t, h => by
    have h : cond (cSame a b) (lSame s t) false = true := h
    cases q : cSame a b with
    | false => rw [q] at h; exact absurd (show false = true from h) (by decide)
    | true =>
      rw [q] at h
      rw [cSame_ok q, lSame_ok (show lSame s t = true from h)]
theorem goodIn_s {big : List Cond} (ws : List Cond) (ps : List Nat) (hp : lSame ws (ps.filterMap (fun i => big[i]?)) = true) (h : ws.all goodWord = true) : GoodIn big ws := goodIn_r ws ps (lSame_ok hp) h
theorem lwr_s (ws : List Cond) (ps : List Nat) (h : lSame ws (ps.filterMap (fun i => lw_tbl[i]?)) = true) : ∀ w ∈ ws, w ∈ lw_tbl := by
  intro w hw
  rw [lSame_ok h] at hw
  obtain ⟨i, _, hi⟩ := List.mem_filterMap.mp hw
  exact List.mem_of_getElem? hi
