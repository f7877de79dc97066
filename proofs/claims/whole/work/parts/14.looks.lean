set_option maxRecDepth 100000 in
set_option maxHeartbeats 4000000 in
theorem c_looks {G : xG} {σ : xS} {m : Nat} {F : Nat → Int32} {T : Nat → Nat} {A : Nat → Nat → Int32} (hP : PX7 σ m F T A) {nr nb : Nat} (hG : Gd (A 1) nr nb) {t : xT} (hT : Hd (A 1) t) (r b : Nat) (hr : r < nr) (hb : b < nb) : CI G yX7_looks cX7_looks 12 (some .int) 1 0 0 [.ref m, .int (nI r), .int (nI b)] σ (fun z σ1 => z = plainF (A 1) t r b ∧ PX7 σ1 m F T A ∧ Off m σ σ1) := by
  sorry
