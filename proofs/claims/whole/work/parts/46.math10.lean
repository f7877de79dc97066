/-! BOUNDS: no TOTAL is as low as where the reference begins -/
def bdI (a : Int32) (m : Nat) : Prop := -(m : Int) ≤ a.toInt ∧ a.toInt ≤ m
theorem bdI.mono {a : Int32} {m n : Nat} (h : bdI a m) (hn : m ≤ n) : bdI a n := by
  obtain ⟨h1, h2⟩ := h
  constructor <;> omega
theorem bd_of {a : Int32} {z : Int} {m : Nat} (e : a.toInt = z.bmod (2 ^ 32)) (h1 : -(m : Int) ≤ z) (h2 : z ≤ m) (hm : m < 2 ^ 31) : bdI a m := by
  have q : z.bmod (2 ^ 32) = z := Int.bmod_eq_of_le (by omega) (by omega)
  rw [q] at e
  exact ⟨by omega, by omega⟩
theorem addB {a b : Int32} {m n : Nat} (ha : bdI a m) (hb : bdI b n) (h : m + n < 2 ^ 31) : bdI (a + b) (m + n) := by
  obtain ⟨a1, a2⟩ := ha
  obtain ⟨b1, b2⟩ := hb
  exact bd_of (Int32.toInt_add a b) (by omega) (by omega) h
theorem subB {a b : Int32} {m n : Nat} (ha : bdI a m) (hb : bdI b n) (h : m + n < 2 ^ 31) : bdI (a - b) (m + n) := by
  obtain ⟨a1, a2⟩ := ha
  obtain ⟨b1, b2⟩ := hb
  exact bd_of (Int32.toInt_sub a b) (by omega) (by omega) h
theorem dblB {a : Int32} {m : Nat} (ha : bdI a m) (h : m + m < 2 ^ 31) : bdI (2 * a) (m + m) := by
  obtain ⟨a1, a2⟩ := ha
  refine bd_of (z := 2 * a.toInt) ?_ (by omega) (by omega) h
  rw [Int32.toInt_mul]
  rfl
theorem negB {a : Int32} {m : Nat} (ha : bdI a m) (h : m < 2 ^ 31) : bdI (-a) m := by
  obtain ⟨a1, a2⟩ := ha
  exact bd_of (Int32.toInt_neg a) (by omega) (by omega) h
theorem nIB {n m : Nat} (h : n ≤ m) (hm : m < 2 ^ 31) : bdI (nI n) m := by
  have := nI_toInt (n := n) (by omega)
  constructor <;> omega
theorem worB {f : xFe} (h : okF f) : bdI (wor f) 99 := by
  have hf := h.2.2
  rw [wor]
  split
  · exact nIB (by omega) (by decide)
  · exact negB (nIB (by omega) (by decide)) (by decide)
theorem plB1 {su : Nat → Int32} : ∀ (l : List xFe) (a : Int32) (m : Nat), bdI a m → (∀ f ∈ l, okF f) → m + 99 * l.length < 2 ^ 31 → bdI (l.foldl (fun a f => if evI su f.1 then a + wor f else a) a) (m + 99 * l.length)
  | [], a, m, ha, _, _ => ha
  | f :: l, a, m, ha, hl, hm => by
    have hlen : (f :: l).length = l.length + 1 := rfl
    rw [hlen] at hm ⊢
    rw [show m + 99 * (l.length + 1) = (m + 99) + 99 * l.length by omega]
    refine plB1 l _ (m + 99) ?_ (fun g hg => hl g (List.mem_cons_of_mem _ hg)) (by omega)
    show bdI (if evI su f.1 = true then a + wor f else a) (m + 99)
    split
    · exact addB ha (worB (hl f (List.mem_cons_self ..))) (by omega)
    · exact ha.mono (by omega)
theorem flat_len (l : List xFe) : l.length ≤ (l.flatMap flR).length := by
  induction l with
  | nil => exact Nat.zero_le _
  | cons f l ih =>
    rw [List.flatMap_cons, List.length_append, List.length_cons]
    have : 1 ≤ (flR f).length := by rw [flR, List.length_append]; simp
    omega
theorem plainB {X : Nat → Int32} {t : xT} {r b : Nat} (hT : Hd X t) : bdI (plainF X t r b) 13860 := by
  rw [plainF, plT]
  have h0 : bdI 0 0 := ⟨by decide, by decide⟩
  rcases hT with ⟨_, rfl⟩ | ⟨a, _, _, h⟩
  · exact (show bdI 0 0 from h0).mono (by omega)
  · have hl := flat_len t.2.2
    have h3 := h.2.2.2.1
    exact (plB1 t.2.2 0 0 h0 h.2.2.1 (by omega)).mono (by omega)
def okW (X : Nat → Int32) : Prop := ∀ k, k < 16 → ∃ n, n ≤ 9 ∧ X (28 + k) = nI n
theorem likLow {X : Nat → Int32} {t : xT} {nr nb r b : Nat} (hG : Gd X nr nb) (hT : Hd X t) (hW : okW X) (hr : r < nr) (hb : b < nb) : bdI (likF X t r b) 30000 := by
  have hr4 := hG.r4
  have hp := plainB (r := r) (b := b) hT
  obtain ⟨th, _, h99, hth⟩ := hG.2.2.1 b hb
  obtain ⟨v, hv9, hv⟩ := hG.2.2.2.2.2 r hr
  have hf : bdI (firmF X r b) 9 := by
    rw [firmF]
    split
    · rw [hv]; exact nIB hv9 (by decide)
    · exact nIB (n := 0) (by omega) (by decide)
  have h5 : bdI (X (5 + b) / 5) 99 := by
    rw [hth, show (5 : Int32) = nI 5 from rfl, pk_div (by omega) (by decide) (by decide)]
    exact nIB (by omega) (by decide)
  have h10 : bdI (X (5 + b) / 10) 99 := by
    rw [hth, show (10 : Int32) = nI 10 from rfl, pk_div (by omega) (by decide) (by decide)]
    exact nIB (by omega) (by decide)
  have hw : bdI (X (28 + 4 * r + ((X (5 + b)).toNatClampNeg % 4))) 9 := by
    have h4 : (X (5 + b)).toNatClampNeg % 4 < 4 := Nat.mod_lt _ (by decide)
    obtain ⟨n, hn, e⟩ := hW (4 * r + ((X (5 + b)).toNatClampNeg % 4)) (by omega)
    rw [← Nat.add_assoc] at e
    rw [e]
    exact nIB hn (by decide)
  have hv' : bdI (X (24 + r)) 9 := by rw [hv]; exact nIB hv9 (by decide)
  rw [likF, likB]
  split
  · exact (subB hp h5 (by omega)).mono (by omega)
  · split
    · exact (dblB hp (by omega)).mono (by omega)
    · split
      · exact (addB hp hf (by omega)).mono (by omega)
      · split
        · exact (addB (subB hp h5 (by omega)) hv' (by omega)).mono (by omega)
        · split
          · exact (addB (dblB hp (by omega)) h10 (by omega)).mono (by omega)
          · split
            · exact (addB (addB hp hf (by omega)) hw (by omega)).mono (by omega)
            · exact hp.mono (by omega)
theorem totB {X : Nat → Int32} {t : xT} {nr nb : Nat} (hG : Gd X nr nb) (hT : Hd X t) (hW : okW X) : bdI (totF X t nr) 120000 := by
  have hr4 := hG.r4
  have hb7 := hG.b7
  have h : ∀ k, k ≤ nr → bdI (itr (fun r a => a + (if X (1 + r) = -1 then 0 else likF X t r (X (1 + r)).toNatClampNeg)) 0 k) (30000 * k) := by
    intro k
    induction k with
    | zero => intro _; exact (show bdI 0 0 from ⟨by decide, by decide⟩)
    | succ k ih =>
      intro hk
      rw [itr]
      refine addB (m := 30000 * k) (n := 30000) (ih (by omega)) ?_ (by omega)
      split
      · exact nIB (n := 0) (by omega) (by decide)
      · rename_i hn
        obtain ⟨b, hb, e⟩ := hG.has (r := k) (by omega) hn
        rw [e, nI_clamp (by omega)]
        exact likLow hG hT hW (by omega) hb
  exact (h nr (Nat.le_refl _)).mono (by omega)
theorem totLow {X : Nat → Int32} {t : xT} {nr nb : Nat} (hG : Gd X nr nb) (hT : Hd X t) (hW : okW X) : -1000000 < totF X t nr := by
  have h := totB hG hT hW
  rw [Int32.lt_iff_toInt_lt]
  have e : (-1000000 : Int32).toInt = -1000000 := by decide
  rw [e]
  have := h.1
  omega
theorem okW.come {X : Nat → Int32} {t : xT} {nr nb r : Nat} (h : okW X) (hr : r < 4) : okW (comeF X t nr nb r) := by
  intro k hk
  rw [come_hi hr (by omega)]
  exact h k hk
theorem coms_ok {t : xT} {nr nb : Nat} : ∀ (l : List Nat) {X : Nat → Int32}, Gd X nr nb → Hd X t → okW X → (∀ r ∈ l, r < nr) → Gd (comesL X t nr nb l) nr nb ∧ Hd (comesL X t nr nb l) t ∧ okW (comesL X t nr nb l)
  | [], _, hG, hT, hW, _ => ⟨hG, hT, hW⟩
  | r :: l, X, hG, hT, hW, hl => by
    have hr := hl r (List.mem_cons_self ..)
    have h4 := hG.r4
    exact coms_ok l (X := comeF X t nr nb r) (hG.come hr) (hT.come h4 hr) (hW.come (by omega)) (fun r' hr' => hl r' (List.mem_cons_of_mem _ hr'))
/-- the best order and its TOTAL -/
def bestO (X : Nat → Int32) (t : xT) (nr nb : Nat) : ordS := foO X t nr nb [] (-1000000, []) (lvO nr nr 0)
theorem lvO_ok : ∀ nr, nr ≤ 4 → lvO nr nr 0 ≠ [] ∧ ∀ l ∈ lvO nr nr 0, l.length = nr ∧ ∀ r ∈ l, r < nr := by decide +kernel
theorem foO_in {X : Nat → Int32} {t : xT} {nr nb : Nat} {pre : List Nat} : ∀ (L : List (List Nat)) (B : ordS), foO X t nr nb pre B L = B ∨ ∃ l ∈ L, (foO X t nr nb pre B L).2 = pre ++ l
  | [], B => Or.inl rfl
  | l :: L, B => by
    rcases foO_in L (stepO X t nr nb pre B l) with h | ⟨l', h1, h2⟩
    · by_cases c : B.1 < totF (comesL X t nr nb l) t nr
      · refine Or.inr ⟨l, List.mem_cons_self .., ?_⟩
        show (foO X t nr nb pre (stepO X t nr nb pre B l) L).2 = _
        rw [h, stepO, if_pos c]
      · refine Or.inl ?_
        show foO X t nr nb pre (stepO X t nr nb pre B l) L = _
        rw [h, stepO, if_neg c]
    · exact Or.inr ⟨l', List.mem_cons_of_mem _ h1, h2⟩
theorem foO_ge {X : Nat → Int32} {t : xT} {nr nb : Nat} {pre : List Nat} : ∀ (L : List (List Nat)) (B : ordS), ¬ (foO X t nr nb pre B L).1 < B.1
  | [], B => fun h => Int32.lt_irrefl h
  | l :: L, B => by
    have h := foO_ge (X := X) (t := t) (nr := nr) (nb := nb) (pre := pre) L (stepO X t nr nb pre B l)
    show ¬ (foO X t nr nb pre (stepO X t nr nb pre B l) L).1 < B.1
    rw [Int32.not_lt] at h ⊢
    refine Int32.le_trans ?_ h
    rw [stepO]
    split
    · rename_i c; exact Int32.le_of_lt c
    · exact Int32.le_refl _
theorem bestO_len {X : Nat → Int32} {t : xT} {nr nb : Nat} (hG : Gd X nr nb) (hT : Hd X t) (hW : okW X) : (bestO X t nr nb).2.length = nr := by
  obtain ⟨h1, h2⟩ := lvO_ok nr hG.r4
  cases hL : lvO nr nr 0 with
  | nil => exact absurd hL h1
  | cons l L =>
    rw [hL] at h2
    have e : stepO X t nr nb [] (-1000000, []) l = (totF (comesL X t nr nb l) t nr, l) := by
      obtain ⟨q1, q2, q3⟩ := coms_ok l hG hT hW (h2 l (List.mem_cons_self ..)).2
      rw [stepO, if_pos (totLow q1 q2 q3)]
      rfl
    have e2 : bestO X t nr nb = foO X t nr nb [] (totF (comesL X t nr nb l) t nr, l) L := by
      rw [bestO, hL, ← e]
      rfl
    rw [e2]
    rcases foO_in (X := X) (t := t) (nr := nr) (nb := nb) (pre := []) L (totF (comesL X t nr nb l) t nr, l) with h | ⟨l', q1, q2⟩
    · rw [h]; exact (h2 l (List.mem_cons_self ..)).1
    · rw [q2]; exact (h2 l' (List.mem_cons_of_mem _ q1)).1
def v_order (X : Nat → Int32) (t : xT) (nr nb : Nat) (k : Int32) : Int32 := if inF k (-1) 3 = true then (if k = -1 then (bestO X t nr nb).1 else if k < nI nr then nI ((bestO X t nr nb).2.getD (cl k) 0) else -5) else -10001
theorem ord_k {k : Int32} {nr : Nat} (hn : nr ≤ 4) (h : inF k (-1) 3 = true) (h1 : ¬ k = -1) (h2 : ¬ nI nr ≤ k) : ∃ q, q < nr ∧ k = nI q := by
  simp only [inF, Bool.and_eq_true, decide_eq_true_eq] at h
  have ha := Int32.le_iff_toInt_le.mp h.1
  rw [show (-1 : Int32).toInt = -1 by decide] at ha
  have hb : ¬ k.toInt = -1 := fun e => h1 (Int32.toInt_inj.mp (e.trans (by decide)))
  have hc : ¬ k < 0 := by
    rw [Int32.lt_iff_toInt_lt, show (0 : Int32).toInt = 0 by decide]
    omega
  obtain ⟨j, hj, rfl⟩ := nI_of hc
  refine ⟨j, ?_, rfl⟩
  rw [Int32.le_iff_toInt_le, nI_toInt hj, nI_toInt (by omega)] at h2
  omega
