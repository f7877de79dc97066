theorem TW.ok {σ : xS} {tw : Nat} {t : xT} (h : TW σ tw t) : ∀ f ∈ t.2.2, okF f := by
  obtain ⟨F, T, A, -, h2⟩ := h
  exact h2.2.2.1
