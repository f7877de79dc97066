theorem RWc.set_day {F : Nat → Int32} {A : Nat → Nat → Int32} {X : Nat → Int32} {nr nb : Nat} {t : xT} {ln : Nat} {v : Int32} (h : RWc F A X nr nb t ln) : RWc (upd F 10 v) A (upd X 0 v) nr nb t ln := by
  obtain ⟨h1, h2, h3, h4, h5, h6, h7, h8, h9, h10, h11, h12⟩ := h
  refine ⟨fun b hb => ?_, fun q hq => ?_, fun q hq => ?_, fun q hq => ?_, fun q hq => ?_, h6, h7, ?_, ?_, h10, h11, fun dg hdg hl q hq b hb => ?_⟩
  · rw [upd_n (by omega)]; exact h1 b hb
  · rw [upd_n (by omega)]; exact h2 q hq
  · rw [upd_n (by omega)]; exact h3 q hq
  · rw [upd_n (by omega)]; exact h4 q hq
  · rw [upd_n (by omega)]; exact h5 q hq
  · rw [upd_s, upd_s]
  · rw [upd_n (by omega), upd_n (by omega)]; exact h9
  · rw [subD_has (by omega)]; exact h12 dg hdg hl q hq b hb
theorem RWc.unlearn {F : Nat → Int32} {A : Nat → Nat → Int32} {X : Nat → Int32} {nr nb : Nat} {t : xT} {ln : Nat} (h : RWc F A X nr nb t ln) : RWc (upd F 7 0) A X nr nb t 0 := by
  obtain ⟨h1, h2, h3, h4, h5, h6, h7, h8, h9, h10, h11, h12⟩ := h
  exact ⟨h1, h2, h3, h4, h5, h6, h7, h8, h9, by omega, Or.inl rfl, fun dg hdg hl => by rw [Nat.zero_testBit] at hl; cases hl⟩
/-- all but what is learned, when a THICK is another -/
theorem RWc.set_thick {F : Nat → Int32} {A : Nat → Nat → Int32} {X : Nat → Int32} {nr nb : Nat} {t : xT} {ln b : Nat} {v : Int32} (h : RWc F A X nr nb t ln) (hr4 : nr ≤ 4) (hb : b < 7) : RWc (upd F 7 0) (upA A 1 (upd (A 1) b v)) (upd X (5 + b) v) nr nb t 0 := by
  obtain ⟨h1, h2, h3, h4, h5, h6, h7, h8, h9, h10, h11, h12⟩ := h
  refine ⟨fun q hq => ?_, fun q hq => ?_, fun q hq => ?_, fun q hq => ?_, fun q hq => ?_, h6, h7, ?_, ?_, by omega, Or.inl rfl, fun dg hdg hl => by rw [Nat.zero_testBit] at hl; cases hl⟩
  · rw [upA_s]
    by_cases e : q = b
    · subst e; rw [upd_s, upd_s]
    · rw [upd_n e, upd_n (by omega)]; exact h1 q hq
  · rw [upA_n (by omega), upd_n (by omega)]; exact h2 q hq
  · rw [upA_n (by omega), upd_n (by omega)]; exact h3 q hq
  · rw [upA_n (by omega), upd_n (by omega)]; exact h4 q hq
  · rw [upA_n (by omega), upd_n (by omega)]; exact h5 q hq
  · rw [upd_n (by omega), upd_n (by omega)]; exact h8
  · rw [upd_n (by omega), upd_n (by omega)]; exact h9
theorem maxmin (v : Int32) : maxF 1 (minF 99 v) = wiF v 1 99 := by
  have e1 : (1 : Int32).toInt = 1 := by decide
  have e99 : (99 : Int32).toInt = 99 := by decide
  rw [maxF, minF, wiF]
  by_cases h1 : v < 99
  · rw [if_pos h1]
    rw [Int32.lt_iff_toInt_lt] at h1
    by_cases h2 : (1 : Int32) < v
    · rw [if_pos h2]
      rw [Int32.lt_iff_toInt_lt] at h2
      rw [if_neg (by rw [Int32.lt_iff_toInt_lt]; omega), if_neg (by show ¬ (99 : Int32) < v; rw [Int32.lt_iff_toInt_lt]; omega)]
    · rw [if_neg h2]
      rw [Int32.lt_iff_toInt_lt] at h2
      by_cases h3 : v < 1
      · rw [if_pos h3]
      · rw [if_neg h3, if_neg (by show ¬ (99 : Int32) < v; rw [Int32.lt_iff_toInt_lt]; omega)]
        rw [Int32.lt_iff_toInt_lt] at h3
        exact (Int32.toInt_inj.mp (by omega)).symm
  · rw [if_neg h1, if_pos (by decide)]
    rw [Int32.lt_iff_toInt_lt] at h1
    rw [if_neg (by rw [Int32.lt_iff_toInt_lt]; omega)]
    by_cases h3 : v > 99
    · rw [if_pos h3]
    · rw [if_neg h3]
      have h3 : ¬ (99 : Int32) < v := h3
      rw [Int32.lt_iff_toInt_lt] at h3
      exact Int32.toInt_inj.mp (by omega)
theorem goX_day {X : Nat → Int32} {t : xT} {nr nb k : Nat} : (itr (goStep t nr nb) (0, X) k).2 0 = X 0 := by
  induction k with
  | zero => rfl
  | succ k ih => exact (upd_n (by omega)).trans ih
/-- a copy of another World -/
theorem RWc.copy {F F' : Nat → Int32} {A A' : Nat → Nat → Int32} {X : Nat → Int32} {nr nb : Nat} {t : xT} {ln : Nat} (h : RWc F A X nr nb t ln) (hr4 : nr ≤ 4) (e1 : ∀ j, j < 7 → A' 1 j = A 1 j) (e2 : ∀ j, j < 4 → A' 2 j = A 2 j) (e3 : ∀ j, j < 4 → A' 3 j = A 3 j) (e4 : ∀ j, j < 4 → A' 4 j = A 4 j) (e5 : ∀ j, j < 16 → A' 5 j = A 5 j) (f8 : F' 8 = F 8) (f9 : F' 9 = F 9) (f10 : F' 10 = F 10) (f11 : F' 11 = F 11) (f7 : F' 7 = 0) : RWc F' A' X nr nb t 0 := by
  obtain ⟨h1, h2, h3, h4, h5, h6, h7, h8, h9, h10, h11, h12⟩ := h
  exact ⟨fun b hb => (e1 b hb).trans (h1 b hb), fun q hq => (e2 q hq).trans (h2 q hq), fun q hq => (e3 q hq).trans (h3 q hq), fun q hq => (e4 q (by omega)).trans (h4 q hq), fun q hq => (e5 q hq).trans (h5 q hq), f8.trans h6, f9.trans h7, f10.trans h8, f11.trans h9, by omega, Or.inl f7, fun dg hdg hl => by rw [Nat.zero_testBit] at hl; cases hl⟩
theorem WX_lt {σ : xS} {w tw : Nat} {X : Nat → Int32} {nr nb : Nat} {t : xT} {ln d : Nat} (h : WX σ w tw X nr nb t ln) (hd : d < 10) (hb : ln.testBit d = true) : ln < 1024 := by
  obtain ⟨F, T, A, hB, -⟩ := h
  have h1 := hB.2.1.2.2.2.2.2.2.2.2.2.1
  rcases Nat.lt_or_eq_of_le h1 with q | q
  · exact q
  · subst q
    have h2 : ∀ d, d < 10 → (1024 : Nat).testBit d = false := by decide
    rw [h2 d hd] at hb
    exact absurd hb (by decide)
