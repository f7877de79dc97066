/-! SEEN -/
def allTo (f : Nat → Bool) (n : Nat) : Bool := itr (fun d is => is && f d) true n
theorem allTo_iff {f : Nat → Bool} {n : Nat} : allTo f n = true ↔ ∀ k, k < n → f k = true := by
  induction n with
  | zero => exact ⟨fun _ k hk => absurd hk (Nat.not_lt_zero k), fun _ => rfl⟩
  | succ n ih =>
    have e : allTo f (n + 1) = (allTo f n && f n) := rfl
    rw [e, Bool.and_eq_true, ih]
    refine ⟨fun h k hk => ?_, fun h => ⟨fun k hk => h k (by omega), h _ (by omega)⟩⟩
    rcases Nat.lt_succ_iff_lt_or_eq.mp hk with q | q
    · exact h.1 k q
    · rw [q]; exact h.2
theorem allTo_false {f : Nat → Bool} {n m : Nat} (h : allTo f n = false) (hm : n ≤ m) : allTo f m = false := by
  cases hq : allTo f m with
  | false => rfl
  | true =>
    have := allTo_iff.mpr (fun k hk => allTo_iff.mp hq k (Nat.lt_of_lt_of_le hk hm))
    rw [this] at h
    cases h
def seen1 (X : Nat → Int32) (nr : Nat) (n : Int32) (k : Nat) : Bool := decide (X (50 + k) ≠ n) || (onF X nr (X (44 + k)) == decide (X (56 + k) = 1))
def seenF (X : Nat → Int32) (nr ns : Nat) (n : Int32) : Bool := allTo (seen1 X nr n) ns
def allSeen (X : Nat → Int32) (t : xT) (nr nb ns : Nat) : Bool := allTo (fun d => seenF (daysF X t nr nb d).2 nr ns (nI d)) 21
/-- what is SEEN: how many, each a BOOK, DAYS, whether -/
def Gs (X : Nat → Int32) (nb ns : Nat) : Prop := ns ≤ 6 ∧ X 15 = nI ns ∧ ∀ k, k < ns → (∃ b, b < nb ∧ X (44 + k) = nI b) ∧ (∃ dk, dk ≤ 20 ∧ X (50 + k) = nI dk) ∧ (X (56 + k) = 0 ∨ X (56 + k) = 1)
theorem come_hi {X : Nat → Int32} {t : xT} {nr nb r j : Nat} (hr : r < 4) (hj : 5 ≤ j) : comeF X t nr nb r j = X j := upd_n (by omega)
theorem goAll_hi {X : Nat → Int32} {t : xT} {nr nb : Nat} (h4 : nr ≤ 4) {j : Nat} (hj : 5 ≤ j) : ∀ k, k ≤ nr → (itr (goStep t nr nb) (0, X) k).2 j = X j := by
  intro k
  induction k with
  | zero => intro _; rfl
  | succ k ih => intro hk; exact (come_hi (by omega) hj).trans (ih (by omega))
theorem go_hi {X : Nat → Int32} {t : xT} {nr nb : Nat} (h4 : nr ≤ 4) {j : Nat} (hj : 5 ≤ j) : (goF X t nr nb).2 j = X j := (upd_n (by omega)).trans (goAll_hi h4 hj nr (Nat.le_refl _))
theorem days_hi {X : Nat → Int32} {t : xT} {nr nb : Nat} (h4 : nr ≤ 4) {j : Nat} (hj : 5 ≤ j) : ∀ k, (daysF X t nr nb k).2 j = X j := by
  intro k
  induction k with
  | zero => rfl
  | succ k ih => exact (go_hi h4 hj).trans ih
theorem Gs.congr {X Y : Nat → Int32} {nb ns : Nat} (h : Gs X nb ns) (hXY : ∀ j, 12 ≤ j → Y j = X j) : Gs Y nb ns := by
  obtain ⟨h1, h2, h3⟩ := h
  exact ⟨h1, by rw [hXY _ (by omega)]; exact h2, fun k hk => by rw [hXY _ (by omega), hXY _ (by omega), hXY _ (by omega)]; exact h3 k hk⟩
theorem holdF_has {X : Nat → Int32} {nr : Nat} {b : Int32} (h : ¬ holdF X nr b = -1) : ∃ j, j < nr ∧ holdF X nr b = nI j := by
  rw [holdF] at h ⊢
  cases hf : fst (fun r => X (1 + r) == b) nr with
  | none => rw [hf] at h; exact absurd rfl h
  | some j => exact ⟨j, (fst_some.mp hf).1, rfl⟩
def swapF (X : Nat → Int32) (nr r b : Nat) : Nat → Int32 := upd (if holdF X nr (nI b) = -1 then X else upd X (1 + (holdF X nr (nI b)).toNatClampNeg) (X (1 + r))) (1 + r) (nI b)
def backF (X Y : Nat → Int32) : Nat → Int32 := fun j => if j < 12 then Y j else X j
theorem seen_beyond {X : Nat → Int32} {t : xT} {nr nb ns q d : Nat} (h4 : nr ≤ 4) (hs : Gs X nb ns) (hq : ∀ k dk, k < ns → dk ≤ 20 → X (50 + k) = nI dk → dk ≤ q) (hd : q < d) (hd2 : d < 21) : seenF (daysF X t nr nb d).2 nr ns (nI d) = true := by
  refine allTo_iff.mpr (fun k hk => ?_)
  obtain ⟨-, ⟨dk, h1, h2⟩, -⟩ := hs.2.2 k hk
  have h3 := hq k dk hk h1 h2
  rw [seen1, days_hi h4 (by omega), h2]
  simp only [Bool.or_eq_true, decide_eq_true_eq]
  exact Or.inl (fun e => by rw [nI_eq (by omega) (by omega)] at e; omega)
