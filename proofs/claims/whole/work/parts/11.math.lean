/-! THE NUMBERS: what a state is, in the reference's row X of 909 numbers -/
def itr {α : Type} (f : Nat → α → α) (a : α) : Nat → α
  | 0 => a
  | n + 1 => f n (itr f a n)
/-- the least below n of which p is so -/
def fst (p : Nat → Bool) : Nat → Option Nat
  | 0 => none
  | n + 1 => match fst p n with
    | some j => some j
    | none => if p n then some n else none
theorem fst_none {p : Nat → Bool} {n : Nat} : fst p n = none ↔ ∀ j, j < n → p j = false := by
  induction n with
  | zero => exact ⟨fun _ j h => absurd h (Nat.not_lt_zero j), fun _ => rfl⟩
  | succ n ih =>
    rw [fst]
    cases h : fst p n with
    | some j =>
      refine ⟨fun q => (by cases q), fun q => ?_⟩
      have := ih.mpr (fun j hj => q j (Nat.lt_succ_of_lt hj))
      rw [h] at this
      cases this
    | none =>
      have h1 := ih.mp h
      by_cases hp : p n = true
      · simp only [hp, if_true]
        refine ⟨fun q => (by cases q), fun q => ?_⟩
        have := q n (Nat.lt_succ_self n)
        rw [hp] at this
        cases this
      · simp only [hp]
        refine ⟨fun _ j hj => ?_, fun _ => rfl⟩
        rcases Nat.lt_succ_iff_lt_or_eq.mp hj with q | rfl
        · exact h1 j q
        · simpa using hp
theorem fst_some {p : Nat → Bool} {n j : Nat} : fst p n = some j ↔ j < n ∧ p j = true ∧ ∀ i, i < j → p i = false := by
  induction n with
  | zero => exact ⟨fun q => (by cases q), fun q => absurd q.1 (Nat.not_lt_zero j)⟩
  | succ n ih =>
    rw [fst]
    cases h : fst p n with
    | some k =>
      constructor
      · intro q
        cases q
        have := ih.mp h
        exact ⟨Nat.lt_succ_of_lt this.1, this.2⟩
      · intro q
        rcases Nat.lt_succ_iff_lt_or_eq.mp q.1 with a | rfl
        · have := ih.mpr ⟨a, q.2⟩
          rw [h] at this
          exact this
        · have hn : ∀ k', k' < j → p k' = false := q.2.2
          have := fst_none.mpr hn
          rw [h] at this
          cases this
    | none =>
      have h1 := fst_none.mp h
      by_cases hp : p n = true
      · simp only [hp, if_true]
        constructor
        · intro q
          cases q
          exact ⟨Nat.lt_succ_self _, hp, h1⟩
        · intro q
          rcases Nat.lt_succ_iff_lt_or_eq.mp q.1 with a | rfl
          · rw [h1 j a] at q
            exact absurd q.2.1 (by decide)
          · rfl
      · simp only [hp]
        constructor
        · intro q; cases q
        · intro q
          rcases Nat.lt_succ_iff_lt_or_eq.mp q.1 with a | rfl
          · rw [h1 j a] at q
            exact absurd q.2.1 (by decide)
          · exact absurd q.2.1 hp
def bI (b : Bool) : Int32 := if b then 1 else 0
theorem bI_or (b : Bool) : bI b = 0 ∨ bI b = 1 := by cases b <;> simp [bI]
theorem bI_0 {b : Bool} : bI b = 0 ↔ b = false := by cases b <;> simp [bI]
theorem bI_1 {b : Bool} : bI b = 1 ↔ b = true := by cases b <;> simp [bI]
/-- v within low .. high -/
def inF (v low high : Int32) : Bool := decide (low ≤ v) && decide (v ≤ high)
/-- numbers of READERS and BOOKS, what each HAS, THICK, the TOWN that holds, KINDS, v -/
def Gd (X : Nat → Int32) (nr nb : Nat) : Prop :=
  (nr ≤ 4 ∧ nb ≤ 7 ∧ X 12 = nI nr ∧ X 13 = nI nb) ∧ (∀ r, r < nr → X (1 + r) = -1 ∨ ∃ b, b < nb ∧ X (1 + r) = nI b) ∧ (∀ b, b < nb → ∃ t, 1 ≤ t ∧ t ≤ 99 ∧ X (5 + b) = nI t) ∧
  (X 19 = -1 ∨ ∃ a, a < 5 ∧ X 19 = nI a) ∧ (∀ r, r < nr → ∃ k, k ≤ 6 ∧ X (20 + r) = nI k) ∧ ∀ r, r < nr → ∃ v, v ≤ 9 ∧ X (24 + r) = nI v
theorem Gd.r4 {X : Nat → Int32} {nr nb : Nat} (h : Gd X nr nb) : nr ≤ 4 := h.1.1
theorem Gd.b7 {X : Nat → Int32} {nr nb : Nat} (h : Gd X nr nb) : nb ≤ 7 := h.1.2.1
theorem Gd.has {X : Nat → Int32} {nr nb : Nat} (h : Gd X nr nb) {r : Nat} (hr : r < nr) (hn : ¬ X (1 + r) = -1) : ∃ b, b < nb ∧ X (1 + r) = nI b := (h.2.1 r hr).resolve_left hn
theorem Gd.town {X : Nat → Int32} {nr nb : Nat} (h : Gd X nr nb) (hn : ¬ X 19 = -1) : ∃ a, a < 5 ∧ X 19 = nI a := h.2.2.2.1.resolve_left hn
def holdF (X : Nat → Int32) (nr : Nat) (b : Int32) : Int32 := match fst (fun r => X (1 + r) == b) nr with
  | some r => nI r
  | none => -1
def onF (X : Nat → Int32) (nr : Nat) (b : Int32) : Bool := (fst (fun r => X (1 + r) == b) nr).isNone
def orN (b : Int32) : Int32 := if b = -1 then -5 else b
def tellF (X : Nat → Int32) (w : Nat) (z : Int32) : Int32 := if X 19 = -1 then z else X (w + (X 19).toNatClampNeg)
def gapF (X : Nat → Int32) : Int32 := tellF X 194 1
def pasteF (X : Nat → Int32) : Int32 := if tellF X 199 5 < 1 then 1 else tellF X 199 5
def thickerF (X : Nat → Int32) (h : Int32) (b : Nat) : Int32 := if h = -1 then 0 else X (5 + h.toNatClampNeg) - X (5 + b)
def mayF (X : Nat → Int32) (nr r b : Nat) : Bool := onF X nr (nI b) && (decide (1 ≤ thickerF X (X (1 + r)) b) && decide (gapF X ≤ thickerF X (X (1 + r)) b))
def mayTakeF (X : Nat → Int32) (nr nb r : Nat) : Int32 := itr (fun b a => a ||| (if mayF X nr r b then 1 <<< (nI b &&& 31) else 0)) 0 nb
theorem holdF_on {X : Nat → Int32} {nr : Nat} {b : Int32} (h4 : nr ≤ 4) : holdF X nr b = -1 ↔ onF X nr b = true := by
  rw [holdF, onF]
  cases h : fst (fun r => X (1 + r) == b) nr with
  | none => simp
  | some j =>
    have := (fst_some.mp h).1
    simp only [Option.isNone_some, Bool.false_eq_true, iff_false]
    intro q
    have h1 := congrArg Int32.toInt q
    rw [nI_toInt (by omega)] at h1
    have h2 : (-1 : Int32).toInt = -1 := by decide
    omega
/-! TOWNS: an item is a test (letter, sign, number), or 0 not, 1 and, 2 or; a feeling: its items, whether love, how much -/
abbrev xI : Type := (Nat × Nat × Nat) ⊕ Nat
abbrev xFe : Type := List xI × Bool × Nat
abbrev xT : Type := Int32 × Int32 × List xFe
def tst (x : Int32) (h : Nat) (v : Nat) : Bool := if h = 0 then decide (x < nI v) else if h = 1 then decide (x = nI v) else decide (nI v < x)
def stI (su : Nat → Int32) : xI → List Bool → List Bool
  | .inl q, s => tst (su q.1) q.2.1 q.2.2 :: s
  | .inr 0, a :: s => (!a) :: s
  | .inr 1, b :: a :: s => (a && b) :: s
  | .inr _, b :: a :: s => (a || b) :: s
  | _, s => s
def evI (su : Nat → Int32) (l : List xI) : Bool := (l.foldl (fun s i => stI su i s) []).headD false
def wor (f : xFe) : Int32 := if f.2.1 then nI f.2.2 else -nI f.2.2
def plT (t : xT) (su : Nat → Int32) : Int32 := t.2.2.foldl (fun a f => if evI su f.1 then a + wor f else a) 0
def okI : xI → Bool
  | .inl q => decide (q.1 < 6) && (decide (q.2.1 < 3) && decide (q.2.2 < 100))
  | .inr k => decide (k < 3)
def depI : List xI → Nat → Option Nat
  | [], d => some d
  | .inl _ :: l, d => if d < 30 then depI l (d + 1) else none
  | .inr 0 :: l, d + 1 => depI l (d + 1)
  | .inr _ :: l, d + 2 => depI l (d + 1)
  | _, _ => none
def okF (f : xFe) : Prop := f.1.all okI = true ∧ depI f.1 0 = some 1 ∧ f.2.2 < 100
def encR : xI → Int32
  | .inl q => nI (q.1 + 8 * q.2.1 + 32 * q.2.2)
  | .inr 0 => -1
  | .inr 1 => -2
  | .inr _ => -3
def flR (f : xFe) : List Int32 := f.1.map encR ++ [if f.2.1 then (-10) - nI f.2.2 else (-200) - nI f.2.2]
def tow0 : xT := (1, 5, [])
/-- the reference's TOWN at the place a is t -/
def RTn (X : Nat → Int32) (a : Nat) (t : xT) : Prop :=
  X (194 + a) = t.1 ∧ (if X (199 + a) < 1 then 1 else X (199 + a)) = t.2.1 ∧ (∀ f ∈ t.2.2, okF f) ∧ (t.2.2.flatMap flR).length ≤ 140 ∧ X (204 + a) = nI (t.2.2.flatMap flR).length ∧ ∀ i, i < (t.2.2.flatMap flR).length → X (209 + 140 * a + i) = (t.2.2.flatMap flR).getD i 0
/-- the TOWN that holds is t -/
def Hd (X : Nat → Int32) (t : xT) : Prop := (X 19 = -1 ∧ t = tow0) ∨ ∃ a, a < 5 ∧ X 19 = nI a ∧ RTn X a t
def subX (X : Nat → Int32) (r b : Nat) : Nat → Int32 := fun i => match i with
  | 0 => nI r
  | 1 => X (20 + r)
  | 2 => X (24 + r)
  | 3 => nI b
  | 4 => X (5 + b) / 10
  | _ => X 0 - X 0 / 10 * 10
def plainF (X : Nat → Int32) (t : xT) (r b : Nat) : Int32 := plT t (subX X r b)
def firmF (X : Nat → Int32) (r b : Nat) : Int32 := if X (1 + r) = nI b then X (24 + r) else 0
/-- LIKING by what is plain -/
def likB (X : Nat → Int32) (r b : Nat) (pl : Int32) : Int32 :=
  if X (20 + r) = 1 then pl - X (5 + b) / 5 else if X (20 + r) = 2 then 2 * pl else if X (20 + r) = 3 then pl + firmF X r b
  else if X (20 + r) = 4 then pl - X (5 + b) / 5 + X (24 + r) else if X (20 + r) = 5 then 2 * pl + X (5 + b) / 10
  else if X (20 + r) = 6 then pl + firmF X r b + X (28 + 4 * r + ((X (5 + b)).toNatClampNeg % 4)) else pl
def likF (X : Nat → Int32) (t : xT) (r b : Nat) : Int32 := likB X r b (plainF X t r b)
def thinF (X : Nat → Int32) (r : Nat) : Bool := decide (X (20 + r) = 1) || decide (X (20 + r) = 4)
def choStep (X : Nat → Int32) (t : xT) (nr r : Nat) (b : Nat) (q : Int32 × Int32) : Int32 × Int32 :=
  if mayF X nr r b then (let is := if thinF X r then -X (5 + b) else likF X t r b; if q.2 < is then (nI b, is) else q) else q
def choTop (X : Nat → Int32) (t : xT) (r : Nat) : Int32 := if X (1 + r) ≠ -1 ∧ thinF X r = false then likF X t r (X (1 + r)).toNatClampNeg else -1000000
def choF (X : Nat → Int32) (t : xT) (nr nb r : Nat) : Int32 := (itr (choStep X t nr r) (-1, choTop X t r) nb).1
def comeF (X : Nat → Int32) (t : xT) (nr nb r : Nat) : Nat → Int32 := upd X (1 + r) (if choF X t nr nb r = -1 then X (1 + r) else choF X t nr nb r)
theorem upA_id {A : Nat → Nat → Int32} {i : Nat} : upA A i (A i) = A := by
  funext j
  by_cases h : j = i
  · subst h; rw [upA_s]
  · rw [upA_n h]
theorem upA_2 {A : Nat → Nat → Int32} {i : Nat} {g g' : Nat → Int32} : upA (upA A i g) i g' = upA A i g' := by
  funext j
  by_cases h : j = i
  · subst h; rw [upA_s, upA_s]
  · rw [upA_n h, upA_n h, upA_n h]
