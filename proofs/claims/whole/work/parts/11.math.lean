/-! THE NUMBERS: what a state is, in the reference's row X of 909 numbers -/
def itr {α : Type} (f : Nat → α → α) (a : α) : Nat → α
  | 0 => a
  | n + 1 => f n (itr f a n)
/-- the least below n of which p is so -/
def fst (p : Nat → Bool) : Nat → Option Nat
  | 0 => none
  | n + 1 => match fst p n with
    | some j => some j
    | none => if p n then some n else none
theorem fst_none {p : Nat → Bool} {n : Nat} : fst p n = none ↔ ∀ j, j < n → p j = false := by
  induction n with
  | zero => exact ⟨fun _ j h => absurd h (Nat.not_lt_zero j), fun _ => rfl⟩
  | succ n ih =>
    rw [fst]
    cases h : fst p n with
    | some j =>
      refine ⟨fun q => (by cases q), fun q => ?_⟩
      have := ih.mpr (fun j hj => q j (Nat.lt_succ_of_lt hj))
      rw [h] at this
      cases this
    | none =>
      have h1 := ih.mp h
      by_cases hp : p n = true
      · simp only [hp, if_true]
        refine ⟨fun q => (by cases q), fun q => ?_⟩
        have := q n (Nat.lt_succ_self n)
        rw [hp] at this
        cases this
      · simp only [hp]
        refine ⟨fun _ j hj => ?_, fun _ => rfl⟩
        rcases Nat.lt_succ_iff_lt_or_eq.mp hj with q | rfl
        · exact h1 j q
        · simpa using hp
theorem fst_some {p : Nat → Bool} {n j : Nat} : fst p n = some j ↔ j < n ∧ p j = true ∧ ∀ i, i < j → p i = false := by
  induction n with
  | zero => exact ⟨fun q => (by cases q), fun q => absurd q.1 (Nat.not_lt_zero j)⟩
  | succ n ih =>
    rw [fst]
    cases h : fst p n with
    | some k =>
      constructor
      · intro q
        cases q
        have := ih.mp h
        exact ⟨Nat.lt_succ_of_lt this.1, this.2⟩
      · intro q
        rcases Nat.lt_succ_iff_lt_or_eq.mp q.1 with a | rfl
        · have := ih.mpr ⟨a, q.2⟩
          rw [h] at this
          exact this
        · have hn : ∀ k', k' < j → p k' = false := q.2.2
          have := fst_none.mpr hn
          rw [h] at this
          cases this
    | none =>
      have h1 := fst_none.mp h
      by_cases hp : p n = true
      · simp only [hp, if_true]
        constructor
        · intro q
          cases q
          exact ⟨Nat.lt_succ_self _, hp, h1⟩
        · intro q
          rcases Nat.lt_succ_iff_lt_or_eq.mp q.1 with a | rfl
          · rw [h1 j a] at q
            exact absurd q.2.1 (by decide)
          · rfl
      · simp only [hp]
        constructor
        · intro q; cases q
        · intro q
          rcases Nat.lt_succ_iff_lt_or_eq.mp q.1 with a | rfl
          · rw [h1 j a] at q
            exact absurd q.2.1 (by decide)
          · exact absurd q.2.1 hp
def bI (b : Bool) : Int32 := if b then 1 else 0
theorem bI_or (b : Bool) : bI b = 0 ∨ bI b = 1 := by cases b <;> simp [bI]
theorem bI_0 {b : Bool} : bI b = 0 ↔ b = false := by cases b <;> simp [bI]
theorem bI_1 {b : Bool} : bI b = 1 ↔ b = true := by cases b <;> simp [bI]
/-- v within low .. high -/
def inF (v low high : Int32) : Bool := decide (low ≤ v) && decide (v ≤ high)
/-- numbers of READERS and BOOKS, what each HAS, THICK -/
def Gd (X : Nat → Int32) (nr nb : Nat) : Prop :=
  (nr ≤ 4 ∧ nb ≤ 7 ∧ X 12 = nI nr ∧ X 13 = nI nb) ∧ (∀ r, r < nr → X (1 + r) = -1 ∨ ∃ b, b < nb ∧ X (1 + r) = nI b) ∧ (∀ b, b < nb → ∃ t, 1 ≤ t ∧ t ≤ 99 ∧ X (5 + b) = nI t) ∧
  (X 19 = -1 ∨ ∃ a, a < 5 ∧ X 19 = nI a)
def holdF (X : Nat → Int32) (nr : Nat) (b : Int32) : Int32 := match fst (fun r => X (1 + r) == b) nr with
  | some r => nI r
  | none => -1
def onF (X : Nat → Int32) (nr : Nat) (b : Int32) : Bool := (fst (fun r => X (1 + r) == b) nr).isNone
def orN (b : Int32) : Int32 := if b = -1 then -5 else b
def tellF (X : Nat → Int32) (w : Nat) (z : Int32) : Int32 := if X 19 = -1 then z else X (w + (X 19).toNatClampNeg)
def gapF (X : Nat → Int32) : Int32 := tellF X 194 1
def pasteF (X : Nat → Int32) : Int32 := if tellF X 199 5 < 1 then 1 else tellF X 199 5
def thickerF (X : Nat → Int32) (h b : Int32) : Int32 := if h = -1 then 0 else X (5 + h.toNatClampNeg) - X (5 + b.toNatClampNeg)
def mayF (X : Nat → Int32) (nr r b : Nat) : Bool := onF X nr (nI b) && (decide (1 ≤ thickerF X (X (1 + r)) (nI b)) && decide (gapF X ≤ thickerF X (X (1 + r)) (nI b)))
def mayTakeF (X : Nat → Int32) (nr nb r : Nat) : Int32 := itr (fun b a => a ||| (if mayF X nr r b then nI 1 <<< (nI b &&& 31) else 0)) 0 nb
theorem holdF_on {X : Nat → Int32} {nr : Nat} {b : Int32} (h4 : nr ≤ 4) : holdF X nr b = -1 ↔ onF X nr b = true := by
  rw [holdF, onF]
  cases h : fst (fun r => X (1 + r) == b) nr with
  | none => simp
  | some j =>
    have := (fst_some.mp h).1
    simp only [Option.isNone_some, Bool.false_eq_true, iff_false]
    intro q
    have h1 := congrArg Int32.toInt q
    rw [nI_toInt (by omega)] at h1
    have h2 : (-1 : Int32).toInt = -1 := by decide
    omega
