theorem lN_0' (n : Nat) : lN n + 0 = lN n := lN_add n 0
theorem lNne {q : Nat} (h : q < 2 ^ 31) (h0 : ¬ q = 0) : ¬ lN q = 0 := by
  rw [show (0 : Int64) = lN 0 from rfl, pk_lEQ (by omega) (by omega)]; exact h0
