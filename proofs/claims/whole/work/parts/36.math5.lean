/-! MORE CALLS -/
def overF (X : Nat → Int32) (t : xT) (nr nb : Nat) (w : Int32) : Bool := allTo (fun q => if w = 0 then decide (choF X t nr nb q = -1) else decide (mayTakeF X nr nb q = 0)) nr
def fndF (p : Nat → Bool) (n : Nat) : Int32 := match fst p n with
  | some j => nI j
  | none => -5
theorem fnd_none {p : Nat → Bool} {n : Nat} (hn : n < 10000) : fndF p n = -5 ↔ fst p n = none := by
  rw [fndF]
  cases h : fst p n with
  | none => simp
  | some j =>
    have := (fst_some.mp h).1
    simp only [reduceCtorEq, iff_false]
    exact nI_nm5 (by omega)
theorem fnd_step {p : Nat → Bool} {n : Nat} (hn : n < 10000) (h : fndF p n = -5) : fndF p (n + 1) = if p n then nI n else -5 := by
  rw [fnd_none hn] at h
  rw [fndF, fst, h]
  by_cases hp : p n = true
  · rw [if_pos hp, if_pos hp]
  · rw [if_neg hp, if_neg hp]
theorem fnd_mono {p : Nat → Bool} {n m : Nat} (hn : n < 10000) (h : ¬ fndF p n = -5) (hm : n ≤ m) : fndF p m = fndF p n := by
  rw [fnd_none hn] at h
  rw [fndF, fndF]
  cases hf : fst p n with
  | none => exact absurd hf h
  | some j =>
    obtain ⟨h1, h2, h3⟩ := fst_some.mp hf
    rw [show fst p m = some j from fst_some.mpr ⟨by omega, h2, h3⟩]
def v_pass (X : Nat → Int32) (t : xT) (nr nb dy : Nat) (n : Int32) : Int32 × (Nat → Int32) := if inF n 0 40 = true then (if 9999 < dy + cl n then (-3, X) else ((daysF X t nr nb (cl n)).2 0, (daysF X t nr nb (cl n)).2)) else (-2, X)
def v_on (X : Nat → Int32) (t : xT) (nr nb : Nat) (n w : Int32) : Int32 := if inF w 0 1 = true ∨ inF (w - 10) 0 (nI nr - 1) = true then (if inF n 0 40 = true then (if w = 0 then (daysF X t nr nb (cl n)).1 else if w = 1 then totF (daysF X t nr nb (cl n)).2 t nr else orN ((daysF X t nr nb (cl n)).2 (1 + cl (w - 10)))) else -10002) else -10001
def v_until (X : Nat → Int32) (t : xT) (nr nb : Nat) (w : Int32) : Int32 := if inF w 0 1 = true then fndF (fun n => overF (daysF X t nr nb n).2 t nr nb w) 41 else -1
def pasN (X : Nat → Int32) (r : Nat) (is : Int32) (n : Nat) : Nat → Int32 := itr (fun _ Y => pastF Y r is) X n
def v_glues (X : Nat → Int32) (nr nb : Nat) (v b : Int32) : Int32 := if inF v 0 (nI nr - 1) = true ∧ inF b 0 (nI nb - 1) = true then fndF (fun n => mayF (pasN X (cl v) 1 n) nr (cl v) (cl b)) 21 else -1
def tearP (X : Nat → Int32) (r h g : Nat) (n : Nat) : Bool := decide (1 ≤ pasN X r 0 n (5 + g) - pasN X r 0 n (5 + h)) && decide (gapF X ≤ pasN X r 0 n (5 + g) - pasN X r 0 n (5 + h))
def v_tears (X : Nat → Int32) (nr : Nat) (v o : Int32) : Int32 := if inF v 0 (nI nr - 1) = true ∧ inF o 0 (nI nr - 1) = true then (if v = o then -2 else if X (1 + cl v) = -1 ∨ X (1 + cl o) = -1 then -5 else fndF (tearP X (cl v) (cl (X (1 + cl v))) (cl (X (1 + cl o)))) 21) else -1
def v_swells (X : Nat → Int32) (t : xT) (nr nb : Nat) (n : Int32) : Int32 := if inF n 0 40 = true then shThF (daysF X t nr nb (cl n)).2 nr nb - shThF X nr nb else -10002
def v_see (X : Nat → Int32) (nb ns : Nat) (b d is : Int32) : Int32 × (Nat → Int32) := if b = -1 then (0, upd X 15 0) else if inF b 0 (nI nb - 1) = true then (if inF d 0 20 = true then (if ns = 6 then (-4, X) else (nI (ns + 1), upd (upd (upd (upd X (44 + ns) b) (50 + ns) d) (56 + ns) (if is = 0 then 0 else 1)) 15 (nI (ns + 1)))) else (-2, X)) else (-1, X)
theorem idx10 {w : Int32} {q : Nat} (h : w - 10 = nI q) : 1 + w - 10 = nI (1 + q) := by
  rw [Int32.sub_eq_add_neg, Int32.add_assoc, ← Int32.sub_eq_add_neg, h]
  exact nI_add 1 q
theorem pasN_hi {X : Nat → Int32} {nr nb r : Nat} {is : Int32} (h : Gd X nr nb) (hr : r < nr) : ∀ n j, 12 ≤ j → pasN X r is n j = X j := by
  have key : ∀ n, Gd (pasN X r is n) nr nb ∧ ∀ j, 12 ≤ j → pasN X r is n j = X j := by
    intro n
    induction n with
    | zero => exact ⟨h, fun j hj => rfl⟩
    | succ n ih =>
      refine ⟨ih.1.past hr, fun j hj => ?_⟩
      refine Eq.trans ?_ (ih.2 j hj)
      show pastF (pasN X r is n) r is j = _
      rw [pastF]
      split
      · rfl
      · next hc =>
        obtain ⟨b, hb, he⟩ := ih.1.has hr hc
        rw [he, nI_clamp (by have := h.b7; omega)]
        exact upd_n (by have := h.b7; omega)
  exact fun n => (key n).2
theorem pasN_ok {X : Nat → Int32} {nr nb r : Nat} {is : Int32} (h : Gd X nr nb) (hr : r < nr) : ∀ n, Gd (pasN X r is n) nr nb := by
  intro n
  induction n with
  | zero => exact h
  | succ n ih => exact ih.past hr
theorem pasN_lo {X : Nat → Int32} {r : Nat} {is : Int32} : ∀ n j, j < 5 → pasN X r is n j = X j := by
  intro n
  induction n with
  | zero => intro j hj; rfl
  | succ n ih => intro j hj; exact (past_lo hj).trans (ih j hj)
theorem gapF_hi {X Y : Nat → Int32} (h : ∀ j, 12 ≤ j → Y j = X j) : gapF Y = gapF X := by
  rw [gapF, gapF, tellF, tellF, h 19 (by omega)]
  split
  · rfl
  · exact h _ (by omega)
