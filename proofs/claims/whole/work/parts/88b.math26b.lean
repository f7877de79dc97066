/-! the first of those, once more -/
theorem fnd_hit {p : Nat → Bool} {N n : Nat} (hn : n < N) (hp : p n = true) (h : ∀ i, i < n → p i = false) : fndF p N = nI n := by rw [fndF, fst_some.mpr ⟨hn, hp, h⟩]
theorem fnd_miss {p : Nat → Bool} {N : Nat} (h : ∀ i, i < N → p i = false) : fndF p N = -5 := by rw [fndF, fst_none.mpr h]
theorem in01f {w : Int32} (h0 : ¬ w = 0) (h1 : ¬ w = 1) : inF w 0 1 = false := by
  cases h : inF w 0 1 with
  | false => rfl
  | true => exact absurd h (fun h => in01 h h0 h1)
theorem no_next {p : Nat → Bool} {n : Nat} (h : ∀ i, i < n → p i = false) (hn : p n = false) : ∀ i, i < n + 1 → p i = false := by
  intro i hi
  by_cases e : i = n
  · rw [e]; exact hn
  · exact h i (by omega)
theorem over_0 {X : Nat → Int32} {t : xT} {nr nb : Nat} : overF X t nr nb 0 = allTo (fun q => decide (choF X t nr nb q = -1)) nr := by rw [overF]; simp
theorem over_n {X : Nat → Int32} {t : xT} {nr nb : Nat} {w : Int32} (h : ¬ w = 0) : overF X t nr nb w = allTo (fun q => decide (mayTakeF X nr nb q = 0)) nr := by rw [overF]; simp [h]
