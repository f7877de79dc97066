/-! THE CALLS: what each answers and how all is then, by the reference's row -/
def cl (v : Int32) : Nat := v.toNatClampNeg
theorem cl_nI {n : Nat} (h : n < 2 ^ 31) : cl (nI n) = n := nI_clamp h
def okP (X : Nat → Int32) (nr np : Nat) : Prop := np ≤ 8 ∧ X 16 = nI np ∧ ∀ k, k < np → ∃ w, w ≤ 3 ∧ X (62 + k) = nI w ∧ (w < 3 → ∃ q, q < nr ∧ X (70 + k) = nI q)
def okN (X : Nat → Int32) (nr nb nn : Nat) : Prop := nn ≤ 8 ∧ X 17 = nI nn ∧ ∀ k, k < nn → (∃ q, q < nr ∧ X (78 + k) = nI q) ∧ ∃ b, b < nb ∧ X (86 + k) = nI b
def okT (X : Nat → Int32) (nt : Nat) : Prop := nt ≤ 100 ∧ X 18 = nI nt ∧ ∀ k, k < nt → ∃ c, c ≤ 127 ∧ X (94 + k) = nI c
def okA (X : Nat → Int32) (na : Nat) : Prop := na ≤ 5 ∧ X 14 = nI na ∧ (X 19 = -1 ∨ ∃ a, a < na ∧ X 19 = nI a)
def okJ (X : Nat → Int32) (nr : Nat) : Prop := ∀ r r', r < nr → r' < nr → X (1 + r) = X (1 + r') → ¬ X (1 + r) = -1 → r = r'
def okR (X : Nat → Int32) (nr : Nat) : Prop := ∀ k, 4 * nr ≤ k → k < 16 → X (28 + k) = 0
def okD (X : Nat → Int32) (dy : Nat) : Prop := dy ≤ 9999 ∧ X 0 = nI dy
/-- the numbers of a state -/
abbrev xN : Type := Nat × Nat × Nat × Nat × Nat × Nat × Nat × Nat
def OK (X : Nat → Int32) (nr nb : Nat) (t : xT) (ns np nn nt na dy : Nat) : Prop :=
  Gd X nr nb ∧ Hd X t ∧ Gs X nb ns ∧ okP X nr np ∧ okN X nr nb nn ∧ okT X nt ∧ okA X na ∧ okJ X nr ∧ okR X nr ∧ okD X dy
/-- the reference's object: row, image, bodies, whether there is an image, how many ran -/
def MK (σ : xS) (m : Nat) (X Y bd : Nat → Int32) (hi rn : Int32) : Prop := ∃ F T A, PX7 σ m F T A ∧ A 1 = X ∧ A 2 = Y ∧ A 11 = bd ∧ F 4 = hi ∧ F 21 = rn
theorem back_id {X fr : Nat → Int32} (h : ∀ j, j < 12 → fr j = X j) : backF X fr = X := by
  funext j
  rw [backF]
  by_cases hj : j < 12
  · rw [if_pos hj]; exact h j hj
  · rw [if_neg hj]
theorem back_hi {X Y fr : Nat → Int32} (h : ∀ j, j < 12 → fr j = X j) (h2 : ∀ j, 12 ≤ j → Y j = X j) : backF Y fr = X := by
  funext j
  rw [backF]
  by_cases hj : j < 12
  · rw [if_pos hj]; exact h j hj
  · rw [if_neg hj]; exact h2 j (by omega)
def v_feed (X : Nat → Int32) (nt : Nat) (s : Int32) : Int32 × (Nat → Int32) := if inF s 0 127 then (if nt = 100 then (-4, X) else (nI (nt + 1), upd (upd X (94 + nt) s) 18 (nI (nt + 1)))) else (-2, X)
def v_book (X : Nat → Int32) (nb : Nat) (th : Int32) : Int32 × (Nat → Int32) := if inF th 1 99 then (if nb = 7 then (-4, X) else (nI nb, upd (upd X (5 + nb) th) 13 (nI (nb + 1)))) else (-2, X)
def v_reader (X : Nat → Int32) (nr : Nat) (k v : Int32) : Int32 × (Nat → Int32) := if inF k 0 6 then (if inF v 0 9 then (if nr = 4 then (-4, X) else (nI nr, upd (upd (upd (upd X (20 + nr) k) (24 + nr) v) (1 + nr) (-1)) 12 (nI (nr + 1)))) else (-2, X)) else (-1, X)
def v_of (X : Nat → Int32) (t : xT) (nr nb : Nat) (v w : Int32) : Int32 := if inF v 0 (nI nr - 1) = true ∧ inF w 0 4 = true then (if w = 0 then X (20 + cl v) else if w = 1 then X (24 + cl v) else if w = 2 then orN (X (1 + cl v)) else if w = 3 then orN (choF X t nr nb (cl v)) else mayTakeF X nr nb (cl v)) else -1
def v_likes (X : Nat → Int32) (t : xT) (nr nb : Nat) (v b : Int32) : Int32 := if inF v 0 (nI nr - 1) = true ∧ inF b 0 (nI nb - 1) = true then likF X t (cl v) (cl b) else -10001
def v_at (X : Nat → Int32) (nr nb : Nat) (b w : Int32) : Int32 := if inF b 0 (nI nb - 1) = true ∧ inF w 0 1 = true then (if w = 0 then X (5 + cl b) else orN (holdF X nr b)) else -1
def v_row (X : Nat → Int32) (nr : Nat) (v k n : Int32) : Int32 × (Nat → Int32) := if inF v 0 (nI nr - 1) = true ∧ inF k 0 3 = true then (if inF n 0 9 = true then (if X (20 + cl v) = 6 then (X (28 + 4 * cl v + cl k), upd X (28 + 4 * cl v + cl k) n) else (-3, X)) else (-2, X)) else (-1, X)
def v_lend (X : Nat → Int32) (nr nb : Nat) (v b : Int32) : Int32 × (Nat → Int32) := if inF v 0 (nI nr - 1) = true ∧ (b = -1 ∨ inF b 0 (nI nb - 1) = true) then (if b = -1 ∨ holdF X nr b = -1 ∨ holdF X nr b = v then (orN (X (1 + cl v)), upd X (1 + cl v) b) else (-3, X)) else (-1, X)
def v_told (X : Nat → Int32) (t : xT) (nr nb dy : Nat) (w : Int32) : Int32 := if w = 0 then nI dy else if w = 1 then gapF X else if w = 2 then pasteF X else if w = 3 then totF X t nr else if w = 4 then shelfF X nr nb else -1
def v_come (X : Nat → Int32) (t : xT) (nr nb : Nat) (v : Int32) : Int32 × (Nat → Int32) := if inF v 0 (nI nr - 1) = true then (orN (comeF X t nr nb (cl v) (1 + cl v)), comeF X t nr nb (cl v)) else (-1, X)
def v_paste (X : Nat → Int32) (nr : Nat) (v is : Int32) : Int32 × (Nat → Int32) := if inF v 0 (nI nr - 1) = true then (if X (1 + cl v) = -1 then (-3, X) else (pastF X (cl v) is (5 + cl (X (1 + cl v))), pastF X (cl v) is)) else (-1, X)
theorem in_N {w : Int32} {n : Nat} (hn : n < 100000) (h : inF w 0 (nI n) = true) : ∃ k, k ≤ n ∧ w = nI k := by
  have e : nI n = nI (n + 1) - 1 := (nI_pred n).symm
  rw [e] at h
  obtain ⟨q, h1, h2⟩ := inF_nat (by omega) h
  exact ⟨q, by omega, h2⟩
theorem zero_id {X : Nat → Int32} {j : Nat} (h : X j = 0) : upd X j 0 = X := by
  funext k
  by_cases e : k = j
  · subst e; rw [upd_s, h]
  · rw [upd_n e]
theorem nl1 : nI 1 = 1 := rfl
theorem nl2 : nI 2 = 2 := rfl
theorem nl3 : nI 3 = 3 := rfl
theorem nl4 : nI 4 = 4 := rfl
theorem nl5 : nI 5 = 5 := rfl
theorem nl6 : nI 6 = 6 := rfl
theorem nl7 : nI 7 = 7 := rfl
theorem nl8 : nI 8 = 8 := rfl
theorem nl9 : nI 9 = 9 := rfl
theorem nl10 : nI 10 = 10 := rfl
theorem past_lo {X : Nat → Int32} {r j : Nat} {is : Int32} (h : j < 5) : pastF X r is j = X j := by
  rw [pastF]
  split
  · rfl
  · exact upd_n (by omega)
