theorem has_iff {X : Nat → Int32} {nr nb r b : Nat} (hG : Gd X nr nb) (hr : r < nr) (hb : b < 1000) : orN (X (1 + r)) = nI b ↔ X (1 + r) = nI b := by
  rcases hG.2.1 r hr with q | ⟨b', hb', q⟩
  · rw [q, orN, if_pos rfl]
    exact ⟨fun h => absurd h.symm (nI_nm5 (by omega)), fun h => absurd h.symm (nI_nm1 (by omega))⟩
  · rw [q, orN_nI (by have := hG.b7; omega)]
/-- LIKING may be asked: the DAY's PLAIN is learned -/
def LB (X : Nat → Int32) (ln : Nat) : Prop := ∃ dy, dy ≤ 20000 ∧ X 0 = nI dy ∧ ln.testBit (dy % 10) = true
theorem plain_eq {X : Nat → Int32} {t : xT} {r b dy : Nat} (h : X 0 = nI dy) (hdy : dy ≤ 20000) : plT t (subD X r b (dy % 10)) = plainF X t r b := by
  rw [plainF]
  congr 1
  funext i
  match i with
  | 0 => rfl
  | 1 => rfl
  | 2 => rfl
  | 3 => rfl
  | 4 => rfl
  | i + 5 =>
    show nI (dy % 10) = X 0 - X 0 / 10 * 10
    rw [h, show (10 : Int32) = nI 10 from rfl, pk_rem (by omega) (by decide) (by decide)]
theorem RWc.pl {F : Nat → Int32} {A : Nat → Nat → Int32} {X : Nat → Int32} {nr nb : Nat} {t : xT} {ln r b dy : Nat} (h : RWc F A X nr nb t ln) (hr : r < nr) (hb : b < nb) (hd : X 0 = nI dy) (hdy : dy ≤ 20000) (hl : ln.testBit (dy % 10) = true) : A 6 ((dy % 10 * 4 + r) * 7 + b) = plainF X t r b := by
  rw [h.2.2.2.2.2.2.2.2.2.2.2 (dy % 10) (Nat.mod_lt _ (by decide)) hl r hr b hb, plain_eq hd hdy]
theorem cho_no {X : Nat → Int32} {t : xT} {nr nb r : Nat} (h : X (1 + r) = -1) : choF X t nr nb r = -1 := by
  have key : ∀ k, (itr (choStep X t nr r) (-1, choTop X t r) k).1 = -1 := by
    intro k
    induction k with
    | zero => rfl
    | succ k ih => rw [itr, choStep, may_no h]; exact ih
  exact key nb
theorem cho_take {X : Nat → Int32} {t : xT} {nr r b : Nat} (hm : mayF X nr r b = true) {is : Int32} (his : (if thinF X r = true then -X (5 + b) else likF X t r b) = is) (q : Int32 × Int32) : choStep X t nr r b q = if q.2 < is then (nI b, is) else q := by
  rw [choStep, hm, if_pos rfl]
  simp only [his]
def choRel (X : Nat → Int32) (r : Nat) (be0 mo0 be top : Int32) : Prop := be = orN be0 ∧ (top = mo0 ∨ (be0 = -1 ∧ thinF X r = true ∧ top = -100 ∧ mo0 = -1000000))
theorem cho_cmp {X : Nat → Int32} {t : xT} {nr nb r b : Nat} {be0 mo0 be top is : Int32} (hG : Gd X nr nb) (hb : b < nb) (h : choRel X r be0 mo0 be top) (his : (if thinF X r = true then -X (5 + b) else likF X t r b) = is) : top < is ↔ mo0 < is := by
  rcases h.2 with e | ⟨-, h2, e1, e2⟩
  · rw [e]
  · rw [h2, if_pos rfl] at his
    obtain ⟨tk, k1, k2, ke⟩ := hG.2.2.1 b hb
    subst his
    rw [ke, e1, e2]
    have e : (-nI tk).toInt = -(tk : Int) := by
      have := nI_toInt (n := tk) (by omega)
      have e0 : -nI tk = nI 0 - nI tk := by rw [nI_0, Int32.zero_sub]
      rw [e0, pk_sub_toInt (by omega) (by omega)]; omega
    have a1 : (-100 : Int32).toInt = -100 := by decide
    have a2 : (-1000000 : Int32).toInt = -1000000 := by decide
    rw [Int32.lt_iff_toInt_lt, Int32.lt_iff_toInt_lt, e, a1, a2]
    omega
