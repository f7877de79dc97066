theorem has_iff {X : Nat → Int32} {nr nb r b : Nat} (hG : Gd X nr nb) (hr : r < nr) (hb : b < 1000) : orN (X (1 + r)) = nI b ↔ X (1 + r) = nI b := by
  rcases hG.2.1 r hr with q | ⟨b', hb', q⟩
  · rw [q, orN, if_pos rfl]
    exact ⟨fun h => absurd h.symm (nI_nm5 (by omega)), fun h => absurd h.symm (nI_nm1 (by omega))⟩
  · rw [q, orN_nI (by have := hG.b7; omega)]
/-- LIKING may be asked: the DAY's PLAIN is learned -/
def LB (X : Nat → Int32) (ln : Nat) : Prop := ∃ dy, dy ≤ 20000 ∧ X 0 = nI dy ∧ ln.testBit (dy % 10) = true
theorem plain_eq {X : Nat → Int32} {t : xT} {r b dy : Nat} (h : X 0 = nI dy) (hdy : dy ≤ 20000) : plT t (subD X r b (dy % 10)) = plainF X t r b := by
  rw [plainF]
  congr 1
  funext i
  match i with
  | 0 => rfl
  | 1 => rfl
  | 2 => rfl
  | 3 => rfl
  | 4 => rfl
  | i + 5 =>
    show nI (dy % 10) = X 0 - X 0 / 10 * 10
    rw [h, show (10 : Int32) = nI 10 from rfl, pk_rem (by omega) (by decide) (by decide)]
theorem RWc.pl {F : Nat → Int32} {A : Nat → Nat → Int32} {X : Nat → Int32} {nr nb : Nat} {t : xT} {ln r b dy : Nat} (h : RWc F A X nr nb t ln) (hr : r < nr) (hb : b < nb) (hd : X 0 = nI dy) (hdy : dy ≤ 20000) (hl : ln.testBit (dy % 10) = true) : A 6 ((dy % 10 * 4 + r) * 7 + b) = plainF X t r b := by
  rw [h.2.2.2.2.2.2.2.2.2.2.2 (dy % 10) (Nat.mod_lt _ (by decide)) hl r hr b hb, plain_eq hd hdy]
theorem cho_no {X : Nat → Int32} {t : xT} {nr nb r : Nat} (h : X (1 + r) = -1) : choF X t nr nb r = -1 := by
  have key : ∀ k, (itr (choStep X t nr r) (-1, choTop X t r) k).1 = -1 := by
    intro k
    induction k with
    | zero => rfl
    | succ k ih => rw [itr, choStep, may_no h]; exact ih
  exact key nb
