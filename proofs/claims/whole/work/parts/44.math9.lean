/-! ORDERS -/
def lvP (g : Nat → List (List Nat)) (d : Nat) : Nat → List (List Nat)
  | 0 => []
  | r + 1 => lvP g d r ++ (if d / 2 ^ r % 2 = 0 then (g r).map (r :: ·) else [])
def lvO : Nat → Nat → Nat → List (List Nat)
  | 0, _, _ => [[]]
  | f + 1, nr, d => lvP (fun r => lvO f nr (d + 2 ^ r)) d nr
def comesL (X : Nat → Int32) (t : xT) (nr nb : Nat) (l : List Nat) : Nat → Int32 := l.foldl (fun X r => comeF X t nr nb r) X
abbrev ordS : Type := Int32 × List Nat
def stepO (X : Nat → Int32) (t : xT) (nr nb : Nat) (pre : List Nat) (B : ordS) (l : List Nat) : ordS := if B.1 < totF (comesL X t nr nb l) t nr then (totF (comesL X t nr nb l) t nr, pre ++ l) else B
def foO (X : Nat → Int32) (t : xT) (nr nb : Nat) (pre : List Nat) (B : ordS) (L : List (List Nat)) : ordS := L.foldl (stepO X t nr nb pre) B
theorem foO_r {X : Nat → Int32} {t : xT} {nr nb r : Nat} {pre : List Nat} {B : ordS} {L : List (List Nat)} : foO X t nr nb pre B (L.map (r :: ·)) = foO (comeF X t nr nb r) t nr nb (pre ++ [r]) B L := by
  rw [foO, foO, List.foldl_map]
  congr 1
  funext B l
  simp only [stepO, comesL, List.foldl_cons, List.append_assoc, List.singleton_append]
  rfl
theorem foO_y {X : Nat → Int32} {t : xT} {nr nb r d : Nat} {pre : List Nat} {B : ordS} {g : Nat → List (List Nat)} (h : d / 2 ^ r % 2 = 0) : foO X t nr nb pre B (lvP g d (r + 1)) = foO (comeF X t nr nb r) t nr nb (pre ++ [r]) (foO X t nr nb pre B (lvP g d r)) (g r) := by
  rw [lvP, if_pos h, ← foO_r, foO, foO, foO, List.foldl_append]
theorem foO_x {X : Nat → Int32} {t : xT} {nr nb r d : Nat} {pre : List Nat} {B : ordS} {g : Nat → List (List Nat)} (h : ¬ d / 2 ^ r % 2 = 0) : foO X t nr nb pre B (lvP g d (r + 1)) = foO X t nr nb pre B (lvP g d r) := by
  rw [lvP, if_neg h, List.append_nil]
theorem foO_len {X : Nat → Int32} {t : xT} {nr nb : Nat} {L : List (List Nat)} : ∀ {pre : List Nat} {B : ordS}, B.2.length ≤ 4 → (∀ l ∈ L, (pre ++ l).length ≤ 4) → (foO X t nr nb pre B L).2.length ≤ 4 := by
  induction L with
  | nil => intro pre B hB _; exact hB
  | cons l L ih =>
    intro pre B hB hL
    show (foO X t nr nb pre (stepO X t nr nb pre B l) L).2.length ≤ 4
    refine ih ?_ (fun l' hl' => hL l' (List.mem_cons_of_mem _ hl'))
    rw [stepO]
    split
    · exact hL l (List.mem_cons_self ..)
    · exact hB
theorem maskN {d r : Nat} (hd : d < 16) (hr : r < 4) (h : d / 2 ^ r % 2 = 0) : nI d ||| (1 <<< (nI r &&& 31)) = nI (d + 2 ^ r) ∧ d + 2 ^ r < 16 := by
  have h1 : ∀ d, d < 16 → ∀ r, r < 4 → d / 2 ^ r % 2 = 0 → nI d ||| (1 <<< (nI r &&& 31)) = nI (d + 2 ^ r) ∧ d + 2 ^ r < 16 := by decide +kernel
  exact h1 d hd r hr h
theorem come_back {X : Nat → Int32} {t : xT} {nr nb r : Nat} : upd (comeF X t nr nb r) (1 + r) (X (1 + r)) = X := by
  rw [comeF, upd_2, upd_self]
theorem getD_app {l : List Nat} {r j : Nat} : (l ++ [r]).getD j 0 = if j = l.length then r else l.getD j 0 := by
  by_cases h : j < l.length
  · rw [if_neg (by omega), List.getD_eq_getElem?_getD, List.getD_eq_getElem?_getD, List.getElem?_append_left h]
  · by_cases e : j = l.length
    · subst e; rw [if_pos rfl, List.getD_eq_getElem?_getD, List.getElem?_append_right (Nat.le_refl _)]; simp
    · rw [if_neg e, List.getD_eq_getElem?_getD, List.getD_eq_getElem?_getD, List.getElem?_eq_none (by simp; omega), List.getElem?_eq_none (by omega)]
