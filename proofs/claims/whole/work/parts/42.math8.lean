/-! ACTS: what they answer and which bodies ran -/
abbrev actS : Type := Nat × (Nat → Int32)
def rbF (n : Nat) (g : Nat → Int32) (b : Int32) : Nat → Int32 := if n < 20 then upd g n b else g
def rbS (s : actS) (b : Int32) : actS := (s.1 + 1, rbF s.1 s.2 b)
def undF (a k : Int32) : Bool := decide (k = 0 ∨ k = a ∨ (0 < k ∧ k < 4 ∧ a = k + 3))
def plR (u : Int32) (s : actS) (x : Int32) : Int32 × actS := (x + u, rbS s 1)
def rdA (k u : Int32) (s : actS) (x : Int32) : Int32 × actS := if undF k 1 = true then plR u (rbS s 11) (x * 3) else if k = 5 then ((plR u (rbS s 51) x).1 ^^^ u, (plR u (rbS s 51) x).2) else plR u s x
def plB (k u w : Int32) (s : actS) (x : Int32) : Int32 × actS := ((rdA k u (rbS s 2) x).1 - w, (rdA k u (rbS s 2) x).2)
def brA (k u w : Int32) (s : actS) (x : Int32) : Int32 × actS := if undF k 2 = true then (-(plB k u w (rbS s 21) x).1, (plB k u w (rbS s 21) x).2) else if k = 6 then ((plB k u w (rbS s 61) x).1 + w, (plB k u w (rbS s 61) x).2) else plB k u w s x
def plTe (k u w : Int32) (s : actS) (x : Int32) : Int32 × actS := ((brA k u w (rbS s 3) x).1 * 2, (brA k u w (rbS s 3) x).2)
def teA (k u w : Int32) (s : actS) (x : Int32) : Int32 × actS := if undF k 3 = true then ((plTe k u w (rbS s 31) x).1 ^^^ 7, (plTe k u w (rbS s 31) x).2) else if k = 4 then ((plTe k u w (rbS s 41) (x - 1)).1 + (rdA k u (plTe k u w (rbS s 41) (x - 1)).2 2).1, (rdA k u (plTe k u w (rbS s 41) (x - 1)).2 2).2) else plTe k u w s x
theorem rbS_n {s : actS} {b : Int32} : (rbS s b).1 = s.1 + 1 := rfl
theorem plR_n {u x : Int32} {s : actS} : (plR u s x).2.1 = s.1 + 1 := rfl
theorem rdA_n {k u x : Int32} {s : actS} : (rdA k u s x).2.1 ≤ s.1 + 2 := by
  rw [rdA]
  split
  · rw [plR_n, rbS_n]; omega
  · split
    · show (plR u (rbS s 51) x).2.1 ≤ _
      rw [plR_n, rbS_n]; omega
    · rw [plR_n]; omega
theorem plB_n {k u w x : Int32} {s : actS} : (plB k u w s x).2.1 ≤ s.1 + 3 := by
  have h := rdA_n (k := k) (u := u) (x := x) (s := rbS s 2)
  rw [rbS_n] at h
  exact h
theorem brA_n {k u w x : Int32} {s : actS} : (brA k u w s x).2.1 ≤ s.1 + 4 := by
  rw [brA]
  split
  · have h := plB_n (k := k) (u := u) (w := w) (x := x) (s := rbS s 21); rw [rbS_n] at h; exact h
  · split
    · have h := plB_n (k := k) (u := u) (w := w) (x := x) (s := rbS s 61); rw [rbS_n] at h; exact h
    · have h := plB_n (k := k) (u := u) (w := w) (x := x) (s := s); omega
theorem plTe_n {k u w x : Int32} {s : actS} : (plTe k u w s x).2.1 ≤ s.1 + 5 := by
  have h := brA_n (k := k) (u := u) (w := w) (x := x) (s := rbS s 3)
  rw [rbS_n] at h
  exact h
theorem teA_n {k u w x : Int32} {s : actS} : (teA k u w s x).2.1 ≤ s.1 + 8 := by
  rw [teA]
  split
  · have h := plTe_n (k := k) (u := u) (w := w) (x := x) (s := rbS s 31); rw [rbS_n] at h; exact Nat.le_trans h (by omega)
  · split
    · have h := plTe_n (k := k) (u := u) (w := w) (x := x - 1) (s := rbS s 41); rw [rbS_n] at h
      exact Nat.le_trans rdA_n (by omega)
    · have h := plTe_n (k := k) (u := u) (w := w) (x := x) (s := s); omega
def v_act (X : Nat → Int32) (g : Nat → Int32) (nr : Nat) (v a x : Int32) : Int32 × actS := if inF v 0 (nI nr - 1) = true ∧ inF a 0 2 = true then (if a = 0 then rdA (X (20 + cl v)) v (0, g) x else if a = 1 then brA (X (20 + cl v)) v (X (24 + cl v)) (0, g) x else teA (X (20 + cl v)) v (X (24 + cl v)) (0, g) x) else (0, (0, g))
def v_trace (g : Nat → Int32) (rr : Nat) (i : Int32) : Int32 := if inF i 0 (nI (if rr < 20 then rr else 20) - 1) = true then g (cl i) else -1
def v_as (X : Nat → Int32) (nr : Nat) (v k : Int32) : Int32 := if inF v 0 (nI nr - 1) = true ∧ inF k 0 6 = true then (if undF (X (20 + cl v)) k = true then X (24 + cl v) else -6) else -1
def v_count (X : Nat → Int32) (rn : Int32) (w : Int32) : Int32 := if w = 7 then rn else if inF w 0 6 = true then X (12 + cl w) else -1
def cpF (X Y : Nat → Int32) (k : Nat) : Nat → Int32 := fun j => if j < k then X j else Y j
theorem cpF_0 {X Y : Nat → Int32} : cpF X Y 0 = Y := by funext j; rw [cpF, if_neg (Nat.not_lt_zero _)]
theorem cpF_s {X Y : Nat → Int32} {k : Nat} : cpF X Y (k + 1) = upd (cpF X Y k) k (X k) := by
  funext j
  by_cases e : j = k
  · subst e; rw [upd_s, cpF, if_pos (by omega)]
  · rw [upd_n e, cpF, cpF]
    by_cases h : j < k
    · rw [if_pos h, if_pos (by omega)]
    · rw [if_neg h, if_neg (by omega)]
theorem cpF_hi {X Y : Nat → Int32} {k j : Nat} (h : k ≤ j) : cpF X Y k j = Y j := by rw [cpF, if_neg (by omega)]
theorem cpF_lo {X Y : Nat → Int32} {k j : Nat} (h : j < k) : cpF X Y k j = X j := by rw [cpF, if_pos h]
def v_undo (X Y : Nat → Int32) (hi : Int32) : Int32 × (Nat → Int32) := if hi = 0 then (-3, X) else (Y 12, cpF Y X 909)
