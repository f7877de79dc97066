/-! THE STATE AND WHAT KEEPS IT -/
def ST (G : xG) (σ : xS) (x m : Nat) (X Y bd : Nat → Int32) (hi : Int32) (rr : Nat) : Prop := ∃ nr nb ns np nn nt na dy t, BK G σ x m X Y bd hi rr nr nb ns np nn nt t ∧ OK X nr nb t ns np nn nt na dy ∧ okW X ∧ okPt X
/-- beyond its end the row stays -/
def hi9 (X X' : Nat → Int32) : Prop := ∀ j, 909 ≤ j → X' j = X j
theorem hi9.rf {X : Nat → Int32} : hi9 X X := fun _ _ => rfl
section CG
variable {X Y : Nat → Int32} {nr nb nr' nb' ns np nn nt na dy : Nat} {t : xT}
theorem Gd.cg (h : Gd X nr nb) (e : ∀ j, (1 ≤ j ∧ j < 14) ∨ (19 ≤ j ∧ j < 28) → Y j = X j) : Gd Y nr nb := by
  obtain ⟨⟨h1, h2, h3, h4⟩, h5, h6, h7, h8, h9⟩ := h
  have r4 : nr ≤ 4 := h1
  have b7 : nb ≤ 7 := h2
  refine ⟨⟨h1, h2, ?_, ?_⟩, fun r hr => ?_, fun b hb => ?_, ?_, fun r hr => ?_, fun r hr => ?_⟩
  · rw [e 12 (by omega)]; exact h3
  · rw [e 13 (by omega)]; exact h4
  · rw [e (1 + r) (by omega)]; exact h5 r hr
  · rw [e (5 + b) (by omega)]; exact h6 b hb
  · rw [e 19 (by omega)]; exact h7
  · rw [e (20 + r) (by omega)]; exact h8 r hr
  · rw [e (24 + r) (by omega)]; exact h9 r hr
theorem Gs.cg2 (h : Gs X nb ns) (hb : nb ≤ nb') (e : ∀ j, j = 15 ∨ (44 ≤ j ∧ j < 62) → Y j = X j) : Gs Y nb' ns := by
  obtain ⟨h1, h2, h3⟩ := h
  refine ⟨h1, by rw [e 15 (by omega)]; exact h2, fun k hk => ?_⟩
  obtain ⟨⟨b, hb1, hb2⟩, h4, h5⟩ := h3 k hk
  rw [e (44 + k) (by omega), e (50 + k) (by omega), e (56 + k) (by omega)]
  exact ⟨⟨b, by omega, hb2⟩, h4, h5⟩
theorem okP.cg (h : okP X nr np) (hr : nr ≤ nr') (e : ∀ j, j = 16 ∨ (62 ≤ j ∧ j < 78) → Y j = X j) : okP Y nr' np := by
  obtain ⟨h1, h2, h3⟩ := h
  refine ⟨h1, by rw [e 16 (by omega)]; exact h2, fun k hk => ?_⟩
  obtain ⟨w, hw1, hw2, hw3⟩ := h3 k hk
  rw [e (62 + k) (by omega), e (70 + k) (by omega)]
  exact ⟨w, hw1, hw2, fun q => by obtain ⟨r, hr1, hr2⟩ := hw3 q; exact ⟨r, by omega, hr2⟩⟩
theorem okN.cg (h : okN X nr nb nn) (hr : nr ≤ nr') (hb : nb ≤ nb') (e : ∀ j, j = 17 ∨ (78 ≤ j ∧ j < 94) → Y j = X j) : okN Y nr' nb' nn := by
  obtain ⟨h1, h2, h3⟩ := h
  refine ⟨h1, by rw [e 17 (by omega)]; exact h2, fun k hk => ?_⟩
  obtain ⟨⟨r, hr1, hr2⟩, b, hb1, hb2⟩ := h3 k hk
  rw [e (78 + k) (by omega), e (86 + k) (by omega)]
  exact ⟨⟨r, by omega, hr2⟩, b, by omega, hb2⟩
theorem okT.cg (h : okT X nt) (e : ∀ j, j = 18 ∨ (94 ≤ j ∧ j < 194) → Y j = X j) : okT Y nt := by
  obtain ⟨h1, h2, h3⟩ := h
  refine ⟨h1, by rw [e 18 (by omega)]; exact h2, fun k hk => ?_⟩
  rw [e (94 + k) (by omega)]
  exact h3 k hk
theorem okA.cg (h : okA X na) (e : ∀ j, j = 14 ∨ j = 19 → Y j = X j) : okA Y na := by
  obtain ⟨h1, h2, h3⟩ := h
  exact ⟨h1, by rw [e 14 (by omega)]; exact h2, by rw [e 19 (by omega)]; exact h3⟩
theorem okJ.cg (h : okJ X nr) (h4 : nr ≤ 4) (e : ∀ j, 1 ≤ j → j < 5 → Y j = X j) : okJ Y nr := by
  intro r r' hr hr'
  rw [e (1 + r) (by omega) (by omega), e (1 + r') (by omega) (by omega)]
  exact h r r' hr hr'
theorem okR.cg (h : okR X nr) (e : ∀ j, 28 ≤ j → j < 44 → Y j = X j) : okR Y nr := by
  intro k h1 h2
  rw [e (28 + k) (by omega) (by omega)]
  exact h k h1 h2
theorem okW.cg (h : okW X) (e : ∀ j, 28 ≤ j → j < 44 → Y j = X j) : okW Y := by
  intro k h2
  rw [e (28 + k) (by omega) (by omega)]
  exact h k h2
/-- THICK, who HAS what, DAY alone have changed -/
theorem OK.low {dy' : Nat} (h : OK X nr nb t ns np nn nt na dy) (hW : okW X) (e : ∀ j, 12 ≤ j → Y j = X j) (hG : Gd Y nr nb) (hT : Hd Y t) (hJ : okJ Y nr) (hD : okD Y dy') : OK Y nr nb t ns np nn nt na dy' ∧ okW Y := by
  obtain ⟨-, -, h3, h4, h5, h6, h7, -, h9, -⟩ := h
  exact ⟨⟨hG, hT, h3.cg2 (Nat.le_refl _) (fun j hj => e j (by omega)), h4.cg (Nat.le_refl _) (fun j hj => e j (by omega)), h5.cg (Nat.le_refl _) (Nat.le_refl _) (fun j hj => e j (by omega)), h6.cg (fun j hj => e j (by omega)), h7.cg (fun j hj => e j (by omega)), hJ, h9.cg (fun j _ _ => e j (by omega)), hD⟩, hW.cg (fun j _ _ => e j (by omega))⟩
/-- the Papers' part alone has changed -/
theorem OK.pap {ns' np' nn' nt' : Nat} (h : OK X nr nb t ns np nn nt na dy) (hW : okW X) (e : ∀ j, inW j → Y j = X j) (hS : Gs Y nb ns') (hP : okP Y nr np') (hN : okN Y nr nb nn') (hT : okT Y nt') : OK Y nr nb t ns' np' nn' nt' na dy ∧ okW Y := by
  obtain ⟨h1, h2, -, -, -, -, h7, h8, h9, h10⟩ := h
  have h4 := h1.r4
  exact ⟨⟨h1.cgW e, h2.cgW e, hS, hP, hN, hT, h7.cg (fun j hj => e j (by rw [inW]; omega)), h8.cg h4 (fun j _ _ => e j (by rw [inW]; omega)), h9.cg (fun j _ _ => e j (by rw [inW]; omega)), h10.1, (e 0 (by rw [inW]; omega)).trans h10.2⟩, hW.cg (fun j _ _ => e j (by rw [inW]; omega))⟩
theorem choF_on {r : Nat} : choF X t nr nb r = -1 ∨ ∃ b, b < nb ∧ choF X t nr nb r = nI b ∧ onF X nr (nI b) = true := by
  have key : ∀ k, k ≤ nb → (itr (choStep X t nr r) (-1, choTop X t r) k).1 = -1 ∨ ∃ b, b < nb ∧ (itr (choStep X t nr r) (-1, choTop X t r) k).1 = nI b ∧ onF X nr (nI b) = true := by
    intro k
    induction k with
    | zero => intro _; exact Or.inl rfl
    | succ k ih =>
      intro hk
      rw [itr, choStep]
      by_cases hm : mayF X nr r k = true
      · rw [if_pos hm]
        dsimp only
        by_cases hq : (itr (choStep X t nr r) (-1, choTop X t r) k).2 < (if thinF X r = true then -X (5 + k) else likF X t r k)
        · rw [if_pos hq]; exact Or.inr ⟨k, by omega, rfl, may_on hm⟩
        · rw [if_neg hq]; exact ih (by omega)
      · rw [if_neg hm]; exact ih (by omega)
  exact key nb (Nat.le_refl _)
theorem on_ne {r : Nat} {b : Int32} (h : onF X nr b = true) (hr : r < nr) : X (1 + r) ≠ b := by
  rw [onF, Option.isNone_iff_eq_none, fst_none] at h
  intro e
  have := h r hr
  rw [e] at this
  simp at this
theorem okJ.upd {r : Nat} {v : Int32} (h : okJ X nr) (hv : ∀ r', r' < nr → r' ≠ r → X (1 + r') = v → v = -1) : okJ (upd X (1 + r) v) nr := by
  intro a b ha hb
  by_cases ea : a = r
  · by_cases eb : b = r
    · intro _ _; rw [ea, eb]
    · subst ea
      rw [upd_s, upd_n (by omega)]
      intro e1 e2
      exact absurd (hv b hb eb e1.symm) e2
  · by_cases eb : b = r
    · subst eb
      rw [upd_s, upd_n (by omega)]
      intro e1 e2
      exact absurd (e1.trans (hv a ha ea e1)) e2
    · rw [upd_n (by omega), upd_n (by omega)]
      exact h a b ha hb
theorem okJ.come {r : Nat} (h : okJ X nr) (hr : r < nr) : okJ (comeF X t nr nb r) nr := by
  rw [comeF]
  refine h.upd (fun r' hr' hne hv => ?_)
  by_cases hc : choF X t nr nb r = -1
  · rw [if_pos hc] at hv ⊢
    by_cases h1 : X (1 + r) = -1
    · exact h1
    · exact absurd (h r' r hr' hr hv (by rw [hv]; exact h1)) hne
  · rw [if_neg hc] at hv
    rcases choF_on (X := X) (t := t) (nr := nr) (nb := nb) (r := r) with q | ⟨b, hb, q, ho⟩
    · exact absurd q hc
    · rw [q] at hv
      exact absurd hv (on_ne ho hr')
theorem okJ.goAll (h : okJ X nr) : ∀ k, k ≤ nr → okJ (itr (goStep t nr nb) (0, X) k).2 nr := by
  intro k
  induction k with
  | zero => intro _; exact h
  | succ k ih => intro hk; exact (ih (by omega)).come (by omega)
theorem okJ.go (h : okJ X nr) (h4 : nr ≤ 4) : okJ (goF X t nr nb).2 nr := (h.goAll nr (Nat.le_refl _)).cg h4 (fun j _ _ => upd_n (by omega))
theorem okJ.days (h : okJ X nr) (h4 : nr ≤ 4) : ∀ k, okJ (daysF X t nr nb k).2 nr := by
  intro k
  induction k with
  | zero => exact h
  | succ k ih => exact ih.go h4
theorem days_day (h : X 0 = nI dy) : ∀ k, (daysF X t nr nb k).2 0 = nI (dy + k) := by
  intro k
  induction k with
  | zero => exact h
  | succ k ih =>
    have e : (daysF X t nr nb (k + 1)).2 0 = (goAll (daysF X t nr nb k).2 t nr nb).2 0 + 1 := by
      show upd (goAll (daysF X t nr nb k).2 t nr nb).2 0 ((goAll (daysF X t nr nb k).2 t nr nb).2 0 + 1) 0 = _
      exact upd_s
    rw [e, goAll, goX_day, ih, ← nI_succ]
    rfl
end CG
/-! rows of the Papers -/
section RPS
variable {F : Nat → Int32} {A : Nat → Nat → Int32} {X : Nat → Int32} {ns np nn nt : Nat}
theorem RPc.feed {s : Int32} (h : RPc F A X ns np nn nt) (h1 : ns ≤ 6) (h2 : np ≤ 8) (h3 : nn ≤ 8) (h4 : nt < 100) : RPc (upd F 8 (nI (nt + 1))) (upA A 1 (upd (A 1) nt s)) (upd (upd X (94 + nt) s) 18 (nI (nt + 1))) ns np nn (nt + 1) := by
  obtain ⟨e1, e2, e3, e4, e5, e6, e7, e8⟩ := h
  refine ⟨upd_s, (upd_n (by decide)).trans e2, (upd_n (by decide)).trans e3, (upd_n (by decide)).trans e4, fun k hk => ?_, fun k hk => ?_, fun k hk => ?_, fun k hk => ?_⟩
  · rw [upA_s, upd_n (show 94 + k ≠ 18 by omega)]
    by_cases e : k = nt
    · subst e; rw [upd_s, upd_s]
    · rw [upd_n e, upd_n (show 94 + k ≠ 94 + nt by omega)]; exact e5 k (by omega)
  · rw [upA_n (by decide), upA_n (by decide), upA_n (by decide), upd_n (by omega), upd_n (by omega), upd_n (by omega), upd_n (by omega), upd_n (by omega), upd_n (by omega)]; exact e6 k hk
  · rw [upA_n (by decide), upA_n (by decide), upd_n (by omega), upd_n (by omega), upd_n (by omega), upd_n (by omega)]; exact e7 k hk
  · rw [upA_n (by decide), upA_n (by decide), upd_n (by omega), upd_n (by omega), upd_n (by omega), upd_n (by omega)]; exact e8 k hk
theorem RPc.see {b d o : Int32} (h : RPc F A X ns np nn nt) (h1 : ns < 6) (h2 : np ≤ 8) (h3 : nn ≤ 8) (h4 : nt ≤ 100) : RPc (upd F 9 (nI (ns + 1))) (upA (upA (upA A 2 (upd (A 2) ns b)) 3 (upd (A 3) ns d)) 4 (upd (A 4) ns o)) (upd (upd (upd (upd X (44 + ns) b) (50 + ns) d) (56 + ns) o) 15 (nI (ns + 1))) (ns + 1) np nn nt := by
  obtain ⟨e1, e2, e3, e4, e5, e6, e7, e8⟩ := h
  have ex : ∀ j, 62 ≤ j → (upd (upd (upd (upd X (44 + ns) b) (50 + ns) d) (56 + ns) o) 15 (nI (ns + 1))) j = X j := fun j hj => by rw [upd_n (by omega), upd_n (by omega), upd_n (by omega), upd_n (by omega)]
  have ea : ∀ i, i ≠ 2 → i ≠ 3 → i ≠ 4 → (upA (upA (upA A 2 (upd (A 2) ns b)) 3 (upd (A 3) ns d)) 4 (upd (A 4) ns o)) i = A i := fun i q1 q2 q3 => by rw [upA_n q3, upA_n q2, upA_n q1]
  refine ⟨(upd_n (by decide)).trans e1, upd_s, (upd_n (by decide)).trans e3, (upd_n (by decide)).trans e4, fun k hk => ?_, fun k hk => ?_, fun k hk => ?_, fun k hk => ?_⟩
  · rw [ea 1 (by decide) (by decide) (by decide), ex _ (by omega)]; exact e5 k hk
  · rw [upA_n (show 2 ≠ 4 by decide), upA_n (show 2 ≠ 3 by decide), upA_s, upA_n (show 3 ≠ 4 by decide), upA_s, upA_s]
    by_cases e : k = ns
    · subst e
      refine ⟨?_, ?_, ?_⟩
      · rw [upd_s, upd_n (by omega), upd_n (by omega), upd_n (by omega), upd_s]
      · rw [upd_s, upd_n (by omega), upd_n (by omega), upd_s]
      · rw [upd_s, upd_n (by omega), upd_s]
    · obtain ⟨q1, q2, q3⟩ := e6 k (by omega)
      refine ⟨?_, ?_, ?_⟩
      · rw [upd_n e, upd_n (by omega), upd_n (by omega), upd_n (by omega), upd_n (by omega)]; exact q1
      · rw [upd_n e, upd_n (by omega), upd_n (by omega), upd_n (by omega), upd_n (by omega)]; exact q2
      · rw [upd_n e, upd_n (by omega), upd_n (by omega), upd_n (by omega), upd_n (by omega)]; exact q3
  · rw [ea 5 (by decide) (by decide) (by decide), ea 6 (by decide) (by decide) (by decide), ex _ (by omega), ex _ (by omega)]; exact e7 k hk
  · rw [ea 7 (by decide) (by decide) (by decide), ea 8 (by decide) (by decide) (by decide), ex _ (by omega), ex _ (by omega)]; exact e8 k hk
theorem RPc.plan {b d : Int32} (h : RPc F A X ns np nn nt) (h1 : ns ≤ 6) (h2 : np < 8) (h3 : nn ≤ 8) (h4 : nt ≤ 100) : RPc (upd F 10 (nI (np + 1))) (upA (upA A 5 (upd (A 5) np b)) 6 (upd (A 6) np d)) (upd (upd (upd X (62 + np) b) (70 + np) d) 16 (nI (np + 1))) ns (np + 1) nn nt := by
  obtain ⟨e1, e2, e3, e4, e5, e6, e7, e8⟩ := h
  have ex : ∀ j, (44 ≤ j ∧ j < 62) ∨ 78 ≤ j → (upd (upd (upd X (62 + np) b) (70 + np) d) 16 (nI (np + 1))) j = X j := fun j hj => by rw [upd_n (by omega), upd_n (by omega), upd_n (by omega)]
  have ea : ∀ i, i ≠ 5 → i ≠ 6 → (upA (upA A 5 (upd (A 5) np b)) 6 (upd (A 6) np d)) i = A i := fun i q1 q2 => by rw [upA_n q2, upA_n q1]
  refine ⟨(upd_n (by decide)).trans e1, (upd_n (by decide)).trans e2, upd_s, (upd_n (by decide)).trans e4, fun k hk => ?_, fun k hk => ?_, fun k hk => ?_, fun k hk => ?_⟩
  · rw [ea 1 (by decide) (by decide), ex _ (by omega)]; exact e5 k hk
  · rw [ea 2 (by decide) (by decide), ea 3 (by decide) (by decide), ea 4 (by decide) (by decide), ex _ (by omega), ex _ (by omega), ex _ (by omega)]; exact e6 k hk
  · rw [upA_n (show 5 ≠ 6 by decide), upA_s, upA_s]
    by_cases e : k = np
    · subst e
      refine ⟨?_, ?_⟩
      · rw [upd_s, upd_n (by omega), upd_n (by omega), upd_s]
      · rw [upd_s, upd_n (by omega), upd_s]
    · obtain ⟨q1, q2⟩ := e7 k (by omega)
      refine ⟨?_, ?_⟩
      · rw [upd_n e, upd_n (by omega), upd_n (by omega), upd_n (by omega)]; exact q1
      · rw [upd_n e, upd_n (by omega), upd_n (by omega), upd_n (by omega)]; exact q2
  · rw [ea 7 (by decide) (by decide), ea 8 (by decide) (by decide), ex _ (by omega), ex _ (by omega)]; exact e8 k hk
theorem RPc.note {b d : Int32} (h : RPc F A X ns np nn nt) (h1 : ns ≤ 6) (h2 : np ≤ 8) (h3 : nn < 8) (h4 : nt ≤ 100) : RPc (upd F 11 (nI (nn + 1))) (upA (upA A 7 (upd (A 7) nn b)) 8 (upd (A 8) nn d)) (upd (upd (upd X (78 + nn) b) (86 + nn) d) 17 (nI (nn + 1))) ns np (nn + 1) nt := by
  obtain ⟨e1, e2, e3, e4, e5, e6, e7, e8⟩ := h
  have ex : ∀ j, (44 ≤ j ∧ j < 78) ∨ 94 ≤ j → (upd (upd (upd X (78 + nn) b) (86 + nn) d) 17 (nI (nn + 1))) j = X j := fun j hj => by rw [upd_n (by omega), upd_n (by omega), upd_n (by omega)]
  have ea : ∀ i, i ≠ 7 → i ≠ 8 → (upA (upA A 7 (upd (A 7) nn b)) 8 (upd (A 8) nn d)) i = A i := fun i q1 q2 => by rw [upA_n q2, upA_n q1]
  refine ⟨(upd_n (by decide)).trans e1, (upd_n (by decide)).trans e2, (upd_n (by decide)).trans e3, upd_s, fun k hk => ?_, fun k hk => ?_, fun k hk => ?_, fun k hk => ?_⟩
  · rw [ea 1 (by decide) (by decide), ex _ (by omega)]; exact e5 k hk
  · rw [ea 2 (by decide) (by decide), ea 3 (by decide) (by decide), ea 4 (by decide) (by decide), ex _ (by omega), ex _ (by omega), ex _ (by omega)]; exact e6 k hk
  · rw [ea 5 (by decide) (by decide), ea 6 (by decide) (by decide), ex _ (by omega), ex _ (by omega)]; exact e7 k hk
  · rw [upA_n (show 7 ≠ 8 by decide), upA_s, upA_s]
    by_cases e : k = nn
    · subst e
      refine ⟨?_, ?_⟩
      · rw [upd_s, upd_n (by omega), upd_n (by omega), upd_s]
      · rw [upd_s, upd_n (by omega), upd_s]
    · obtain ⟨q1, q2⟩ := e8 k (by omega)
      refine ⟨?_, ?_⟩
      · rw [upd_n e, upd_n (by omega), upd_n (by omega), upd_n (by omega)]; exact q1
      · rw [upd_n e, upd_n (by omega), upd_n (by omega), upd_n (by omega)]; exact q2
/-- one count is none again -/
theorem RPc.see0 (h : RPc F A X ns np nn nt) (h2 : np ≤ 8) (h3 : nn ≤ 8) (h4 : nt ≤ 100) : RPc (upd F 9 0) A (upd X 15 0) 0 np nn nt := by
  obtain ⟨e1, e2, e3, e4, e5, e6, e7, e8⟩ := h
  refine ⟨(upd_n (by decide)).trans e1, upd_s, (upd_n (by decide)).trans e3, (upd_n (by decide)).trans e4, fun k hk => ?_, fun k hk => absurd hk (Nat.not_lt_zero k), fun k hk => ?_, fun k hk => ?_⟩
  · rw [upd_n (by omega)]; exact e5 k hk
  · rw [upd_n (by omega), upd_n (by omega)]; exact e7 k hk
  · rw [upd_n (by omega), upd_n (by omega)]; exact e8 k hk
theorem RPc.plan0 (h : RPc F A X ns np nn nt) (h1 : ns ≤ 6) (h3 : nn ≤ 8) (h4 : nt ≤ 100) : RPc (upd F 10 0) A (upd X 16 0) ns 0 nn nt := by
  obtain ⟨e1, e2, e3, e4, e5, e6, e7, e8⟩ := h
  refine ⟨(upd_n (by decide)).trans e1, (upd_n (by decide)).trans e2, upd_s, (upd_n (by decide)).trans e4, fun k hk => ?_, fun k hk => ?_, fun k hk => absurd hk (Nat.not_lt_zero k), fun k hk => ?_⟩
  · rw [upd_n (by omega)]; exact e5 k hk
  · rw [upd_n (by omega), upd_n (by omega), upd_n (by omega)]; exact e6 k hk
  · rw [upd_n (by omega), upd_n (by omega)]; exact e8 k hk
theorem RPc.note0 (h : RPc F A X ns np nn nt) (h1 : ns ≤ 6) (h2 : np ≤ 8) (h4 : nt ≤ 100) : RPc (upd F 11 0) A (upd X 17 0) ns np 0 nt := by
  obtain ⟨e1, e2, e3, e4, e5, e6, e7, e8⟩ := h
  refine ⟨(upd_n (by decide)).trans e1, (upd_n (by decide)).trans e2, (upd_n (by decide)).trans e3, upd_s, fun k hk => ?_, fun k hk => ?_, fun k hk => ?_, fun k hk => absurd hk (Nat.not_lt_zero k)⟩
  · rw [upd_n (by omega)]; exact e5 k hk
  · rw [upd_n (by omega), upd_n (by omega), upd_n (by omega)]; exact e6 k hk
  · rw [upd_n (by omega), upd_n (by omega)]; exact e7 k hk
end RPS
/-! what each call keeps -/
section KEEP
variable {X : Nat → Int32} {nr nb ns np nn nt na dy : Nat} {t : xT}
theorem OK.feed {c : Nat} (h : OK X nr nb t ns np nn nt na dy) (hW : okW X) (hn : nt < 100) (hc : c ≤ 127) : OK (upd (upd X (94 + nt) (nI c)) 18 (nI (nt + 1))) nr nb t ns np nn (nt + 1) na dy ∧ okW (upd (upd X (94 + nt) (nI c)) 18 (nI (nt + 1))) := by
  have h0 := h
  obtain ⟨-, -, h3, h4, h5, h6, -⟩ := h0
  refine h.pap hW (fun j hj => by rw [inW] at hj; rw [upd_n (by omega), upd_n (by omega)]) (h3.cg2 (Nat.le_refl _) (fun j hj => by rw [upd_n (by omega), upd_n (by omega)])) (h4.cg (Nat.le_refl _) (fun j hj => by rw [upd_n (by omega), upd_n (by omega)])) (h5.cg (Nat.le_refl _) (Nat.le_refl _) (fun j hj => by rw [upd_n (by omega), upd_n (by omega)])) ⟨by omega, upd_s, fun k hk => ?_⟩
  rw [upd_n (show 94 + k ≠ 18 by omega)]
  by_cases e : k = nt
  · subst e; rw [upd_s]; exact ⟨c, hc, rfl⟩
  · rw [upd_n (by omega)]; exact h6.2.2 k (by omega)
theorem OK.see {b d : Nat} {o : Int32} (h : OK X nr nb t ns np nn nt na dy) (hW : okW X) (hn : ns < 6) (hb : b < nb) (hd : d ≤ 20) (ho : o = 0 ∨ o = 1) : OK (upd (upd (upd (upd X (44 + ns) (nI b)) (50 + ns) (nI d)) (56 + ns) o) 15 (nI (ns + 1))) nr nb t (ns + 1) np nn nt na dy ∧ okW (upd (upd (upd (upd X (44 + ns) (nI b)) (50 + ns) (nI d)) (56 + ns) o) 15 (nI (ns + 1))) := by
  have h0 := h
  obtain ⟨-, -, h3, h4, h5, h6, -⟩ := h0
  have ex : ∀ j, j ≠ 15 → (j < 44 ∨ 62 ≤ j) → (upd (upd (upd (upd X (44 + ns) (nI b)) (50 + ns) (nI d)) (56 + ns) o) 15 (nI (ns + 1))) j = X j := fun j h1 h2 => by rw [upd_n (by omega), upd_n (by omega), upd_n (by omega), upd_n (by omega)]
  refine h.pap hW (fun j hj => by rw [inW] at hj; exact ex j (by omega) (by omega)) ⟨by omega, upd_s, fun k hk => ?_⟩ (h4.cg (Nat.le_refl _) (fun j hj => ex j (by omega) (by omega))) (h5.cg (Nat.le_refl _) (Nat.le_refl _) (fun j hj => ex j (by omega) (by omega))) (h6.cg (fun j hj => ex j (by omega) (by omega)))
  by_cases e : k = ns
  · subst e
    refine ⟨⟨b, hb, ?_⟩, ⟨d, hd, ?_⟩, ?_⟩
    · rw [upd_n (by omega), upd_n (by omega), upd_n (by omega), upd_s]
    · rw [upd_n (by omega), upd_n (by omega), upd_s]
    · rw [upd_n (by omega), upd_s]; exact ho
  · rw [upd_n (show 44 + k ≠ 15 by omega), upd_n (show 44 + k ≠ 56 + ns by omega), upd_n (show 44 + k ≠ 50 + ns by omega), upd_n (show 44 + k ≠ 44 + ns by omega), upd_n (show 50 + k ≠ 15 by omega), upd_n (show 50 + k ≠ 56 + ns by omega), upd_n (show 50 + k ≠ 50 + ns by omega), upd_n (show 50 + k ≠ 44 + ns by omega), upd_n (show 56 + k ≠ 15 by omega), upd_n (show 56 + k ≠ 56 + ns by omega), upd_n (show 56 + k ≠ 50 + ns by omega), upd_n (show 56 + k ≠ 44 + ns by omega)]
    exact h3.2.2 k (by omega)
theorem OK.see0 (h : OK X nr nb t ns np nn nt na dy) (hW : okW X) : OK (upd X 15 0) nr nb t 0 np nn nt na dy ∧ okW (upd X 15 0) := by
  have h0 := h
  obtain ⟨-, -, h3, h4, h5, h6, -⟩ := h0
  exact h.pap hW (fun j hj => by rw [inW] at hj; exact upd_n (by omega)) ⟨by omega, upd_s, fun k hk => absurd hk (Nat.not_lt_zero k)⟩ (h4.cg (Nat.le_refl _) (fun j hj => upd_n (by omega))) (h5.cg (Nat.le_refl _) (Nat.le_refl _) (fun j hj => upd_n (by omega))) (h6.cg (fun j hj => upd_n (by omega)))
theorem OK.plan {w : Nat} {v : Int32} (h : OK X nr nb t ns np nn nt na dy) (hW : okW X) (hn : np < 8) (hw : w ≤ 3) (hv : w < 3 → ∃ q, q < nr ∧ v = nI q) : OK (upd (upd (upd X (62 + np) (nI w)) (70 + np) v) 16 (nI (np + 1))) nr nb t ns (np + 1) nn nt na dy ∧ okW (upd (upd (upd X (62 + np) (nI w)) (70 + np) v) 16 (nI (np + 1))) := by
  have h0 := h
  obtain ⟨-, -, h3, h4, h5, h6, -⟩ := h0
  have ex : ∀ j, j ≠ 16 → (j < 62 ∨ 78 ≤ j) → (upd (upd (upd X (62 + np) (nI w)) (70 + np) v) 16 (nI (np + 1))) j = X j := fun j h1 h2 => by rw [upd_n (by omega), upd_n (by omega), upd_n (by omega)]
  refine h.pap hW (fun j hj => by rw [inW] at hj; exact ex j (by omega) (by omega)) (h3.cg2 (Nat.le_refl _) (fun j hj => ex j (by omega) (by omega))) ⟨by omega, upd_s, fun k hk => ?_⟩ (h5.cg (Nat.le_refl _) (Nat.le_refl _) (fun j hj => ex j (by omega) (by omega))) (h6.cg (fun j hj => ex j (by omega) (by omega)))
  by_cases e : k = np
  · subst e
    refine ⟨w, hw, ?_, fun q => ?_⟩
    · rw [upd_n (by omega), upd_n (by omega), upd_s]
    · rw [upd_n (by omega), upd_s]; exact hv q
  · rw [upd_n (show 62 + k ≠ 16 by omega), upd_n (show 62 + k ≠ 70 + np by omega), upd_n (show 62 + k ≠ 62 + np by omega), upd_n (show 70 + k ≠ 16 by omega), upd_n (show 70 + k ≠ 70 + np by omega), upd_n (show 70 + k ≠ 62 + np by omega)]
    exact h4.2.2 k (by omega)
theorem OK.plan0 (h : OK X nr nb t ns np nn nt na dy) (hW : okW X) : OK (upd X 16 0) nr nb t ns 0 nn nt na dy ∧ okW (upd X 16 0) := by
  have h0 := h
  obtain ⟨-, -, h3, h4, h5, h6, -⟩ := h0
  exact h.pap hW (fun j hj => by rw [inW] at hj; exact upd_n (by omega)) (h3.cg2 (Nat.le_refl _) (fun j hj => upd_n (by omega))) ⟨by omega, upd_s, fun k hk => absurd hk (Nat.not_lt_zero k)⟩ (h5.cg (Nat.le_refl _) (Nat.le_refl _) (fun j hj => upd_n (by omega))) (h6.cg (fun j hj => upd_n (by omega)))
theorem OK.note {q b : Nat} (h : OK X nr nb t ns np nn nt na dy) (hW : okW X) (hn : nn < 8) (hq : q < nr) (hb : b < nb) : OK (upd (upd (upd X (78 + nn) (nI q)) (86 + nn) (nI b)) 17 (nI (nn + 1))) nr nb t ns np (nn + 1) nt na dy ∧ okW (upd (upd (upd X (78 + nn) (nI q)) (86 + nn) (nI b)) 17 (nI (nn + 1))) := by
  have h0 := h
  obtain ⟨-, -, h3, h4, h5, h6, -⟩ := h0
  have ex : ∀ j, j ≠ 17 → (j < 78 ∨ 94 ≤ j) → (upd (upd (upd X (78 + nn) (nI q)) (86 + nn) (nI b)) 17 (nI (nn + 1))) j = X j := fun j h1 h2 => by rw [upd_n (by omega), upd_n (by omega), upd_n (by omega)]
  refine h.pap hW (fun j hj => by rw [inW] at hj; exact ex j (by omega) (by omega)) (h3.cg2 (Nat.le_refl _) (fun j hj => ex j (by omega) (by omega))) (h4.cg (Nat.le_refl _) (fun j hj => ex j (by omega) (by omega))) ⟨by omega, upd_s, fun k hk => ?_⟩ (h6.cg (fun j hj => ex j (by omega) (by omega)))
  by_cases e : k = nn
  · subst e
    refine ⟨⟨q, hq, ?_⟩, b, hb, ?_⟩
    · rw [upd_n (by omega), upd_n (by omega), upd_s]
    · rw [upd_n (by omega), upd_s]
  · rw [upd_n (show 78 + k ≠ 17 by omega), upd_n (show 78 + k ≠ 86 + nn by omega), upd_n (show 78 + k ≠ 78 + nn by omega), upd_n (show 86 + k ≠ 17 by omega), upd_n (show 86 + k ≠ 86 + nn by omega), upd_n (show 86 + k ≠ 78 + nn by omega)]
    exact h5.2.2 k (by omega)
theorem OK.note0 (h : OK X nr nb t ns np nn nt na dy) (hW : okW X) : OK (upd X 17 0) nr nb t ns np 0 nt na dy ∧ okW (upd X 17 0) := by
  have h0 := h
  obtain ⟨-, -, h3, h4, h5, h6, -⟩ := h0
  exact h.pap hW (fun j hj => by rw [inW] at hj; exact upd_n (by omega)) (h3.cg2 (Nat.le_refl _) (fun j hj => upd_n (by omega))) (h4.cg (Nat.le_refl _) (fun j hj => upd_n (by omega))) ⟨by omega, upd_s, fun k hk => absurd hk (Nat.not_lt_zero k)⟩ (h6.cg (fun j hj => upd_n (by omega)))
theorem RWc.book {F : Nat → Int32} {A : Nat → Nat → Int32} {th : Int32} (h : RWc F A X nr nb t 1024) (h4 : nr ≤ 4) (hb : nb < 7) : RWc (upd F 8 (nI (nb + 1))) (upA A 1 (upd (A 1) nb th)) (upd (upd X (5 + nb) th) 13 (nI (nb + 1))) nr (nb + 1) t 1024 := by
  obtain ⟨h1, h2, h3, h4, h5, h6, h7, h8, h9, h10, h11, h12⟩ := h
  refine ⟨fun b hb => ?_, fun q hq => ?_, fun q hq => ?_, fun q hq => ?_, fun q hq => ?_, upd_s, (upd_n (by decide)).trans h7, ?_, ?_, Nat.le_refl _, Or.inr rfl, fun dg hdg hl => ?_⟩
  · rw [upA_s, upd_n (show 5 + b ≠ 13 by omega)]
    by_cases e : b = nb
    · subst e; rw [upd_s, upd_s]
    · rw [upd_n e, upd_n (by omega)]; exact h1 b hb
  · rw [upA_n (by decide), upd_n (by omega), upd_n (by omega)]; exact h2 q hq
  · rw [upA_n (by decide), upd_n (by omega), upd_n (by omega)]; exact h3 q hq
  · rw [upA_n (by decide), upd_n (by omega), upd_n (by omega)]; exact h4 q hq
  · rw [upA_n (by decide), upd_n (by omega), upd_n (by omega)]; exact h5 q hq
  · rw [upd_n (by decide), upd_n (by omega), upd_n (by omega)]; exact h8
  · rw [upd_n (by decide), upd_n (by omega), upd_n (by omega)]; exact h9
  · have h : ∀ d, d < 10 → (1024 : Nat).testBit d = false := by decide
    rw [h dg hdg] at hl
    exact absurd hl (by decide)
theorem OK.book {k : Nat} (h : OK X nr nb t ns np nn nt na dy) (hW : okW X) (hn : nb < 7) (h1 : 1 ≤ k) (h2 : k ≤ 99) : OK (upd (upd X (5 + nb) (nI k)) 13 (nI (nb + 1))) nr (nb + 1) t ns np nn nt na dy ∧ okW (upd (upd X (5 + nb) (nI k)) 13 (nI (nb + 1))) := by
  obtain ⟨hG, hT, h3, h4, h5, h6, h7, h8, h9, h10⟩ := h
  have ex : ∀ j, j ≠ 13 → (j < 5 ∨ 12 ≤ j) → (upd (upd X (5 + nb) (nI k)) 13 (nI (nb + 1))) j = X j := fun j q1 q2 => by rw [upd_n q1, upd_n (by omega)]
  have r4 := hG.r4
  refine ⟨⟨?_, hT.congr (ex _ (by decide) (by decide)) (fun j hj => ex _ (by omega) (by omega)), h3.cg2 (Nat.le_succ _) (fun j hj => ex _ (by omega) (by omega)), h4.cg (Nat.le_refl _) (fun j hj => ex _ (by omega) (by omega)), h5.cg (Nat.le_refl _) (Nat.le_succ _) (fun j hj => ex _ (by omega) (by omega)), h6.cg (fun j hj => ex _ (by omega) (by omega)), h7.cg (fun j hj => ex _ (by omega) (by omega)), h8.cg r4 (fun j _ _ => ex _ (by omega) (by omega)), h9.cg (fun j _ _ => ex _ (by omega) (by omega)), h10.1, (ex 0 (by decide) (by decide)).trans h10.2⟩, hW.cg (fun j _ _ => ex _ (by omega) (by omega))⟩
  obtain ⟨⟨g1, g2, g3, g4⟩, g5, g6, g7, g8, g9⟩ := hG
  refine ⟨⟨g1, by omega, (ex _ (by decide) (by decide)).trans g3, upd_s⟩, fun r hr => ?_, fun b hb => ?_, ?_, fun r hr => ?_, fun r hr => ?_⟩
  · rw [ex _ (by omega) (by omega)]
    rcases g5 r hr with q | ⟨b, hb, q⟩
    · exact Or.inl q
    · exact Or.inr ⟨b, by omega, q⟩
  · rw [upd_n (show 5 + b ≠ 13 by omega)]
    by_cases e : b = nb
    · subst e; rw [upd_s]; exact ⟨k, h1, h2, rfl⟩
    · rw [upd_n (by omega)]; exact g6 b (by omega)
  · rw [ex _ (by omega) (by omega)]; exact g7
  · rw [ex _ (by omega) (by omega)]; exact g8 r hr
  · rw [ex _ (by omega) (by omega)]; exact g9 r hr
theorem OK.enter {k v : Nat} (h : OK X nr nb t ns np nn nt na dy) (hW : okW X) (hn : nr < 4) (hk : k ≤ 6) (hv : v ≤ 9) : OK (upd (upd (upd (upd X (20 + nr) (nI k)) (24 + nr) (nI v)) (1 + nr) (-1)) 12 (nI (nr + 1))) (nr + 1) nb t ns np nn nt na dy ∧ okW (upd (upd (upd (upd X (20 + nr) (nI k)) (24 + nr) (nI v)) (1 + nr) (-1)) 12 (nI (nr + 1))) := by
  obtain ⟨hG, hT, h3, h4, h5, h6, h7, h8, h9, h10⟩ := h
  have ex : ∀ j, j ≠ 12 → j ≠ 1 + nr → j ≠ 24 + nr → j ≠ 20 + nr → (upd (upd (upd (upd X (20 + nr) (nI k)) (24 + nr) (nI v)) (1 + nr) (-1)) 12 (nI (nr + 1))) j = X j := fun j q1 q2 q3 q4 => by rw [upd_n q1, upd_n q2, upd_n q3, upd_n q4]
  refine ⟨⟨hG.enter hn hk hv, Hd_enter hT hn, h3.cg2 (Nat.le_refl _) (fun j hj => ex _ (by omega) (by omega) (by omega) (by omega)), h4.cg (Nat.le_succ _) (fun j hj => ex _ (by omega) (by omega) (by omega) (by omega)), h5.cg (Nat.le_succ _) (Nat.le_refl _) (fun j hj => ex _ (by omega) (by omega) (by omega) (by omega)), h6.cg (fun j hj => ex _ (by omega) (by omega) (by omega) (by omega)), h7.cg (fun j hj => ex _ (by omega) (by omega) (by omega) (by omega)), ?_, fun q q1 q2 => ?_, h10.1, (ex 0 (by omega) (by omega) (by omega) (by omega)).trans h10.2⟩, hW.cg (fun j _ _ => ex _ (by omega) (by omega) (by omega) (by omega))⟩
  · intro a b ha hb
    by_cases ea : a = nr
    · subst ea
      intro _ e2
      rw [upd_n (by omega), upd_s] at e2
      exact absurd rfl e2
    · by_cases eb : b = nr
      · subst eb
        intro e1 e2
        rw [e1, upd_n (by omega), upd_s] at e2
        exact absurd rfl e2
      · rw [ex _ (by omega) (by omega) (by omega) (by omega), ex _ (by omega) (by omega) (by omega) (by omega)]
        exact h8 a b (by omega) (by omega)
  · rw [ex _ (by omega) (by omega) (by omega) (by omega)]; exact h9 q (by omega) q2
theorem RWc.row {F : Nat → Int32} {A : Nat → Nat → Int32} {q k : Nat} {n : Int32} (h : RWc F A X nr nb t 1024) (h4 : nr ≤ 4) (hb : nb ≤ 7) (hq : q < 4) (hk : k < 4) : RWc F (upA A 5 (upd (A 5) (q * 4 + k) n)) (upd X (28 + 4 * q + k) n) nr nb t 1024 := by
  obtain ⟨h1, h2, h3, h4, h5, h6, h7, h8, h9, h10, h11, h12⟩ := h
  refine ⟨fun b hb => ?_, fun q hq => ?_, fun q hq => ?_, fun q hq => ?_, fun j hj => ?_, h6, h7, ?_, ?_, Nat.le_refl _, Or.inr rfl, fun dg hdg hl => ?_⟩
  · rw [upA_n (by decide), upd_n (by omega)]; exact h1 b hb
  · rw [upA_n (by decide), upd_n (by omega)]; exact h2 q hq
  · rw [upA_n (by decide), upd_n (by omega)]; exact h3 q hq
  · rw [upA_n (by decide), upd_n (by omega)]; exact h4 q hq
  · rw [upA_s]
    by_cases e : j = q * 4 + k
    · subst e; rw [upd_s, show 28 + (q * 4 + k) = 28 + 4 * q + k by omega, upd_s]
    · rw [upd_n e, upd_n (by omega)]; exact h5 j hj
  · rw [upd_n (by omega)]; exact h8
  · rw [upd_n (by omega)]; exact h9
  · have h : ∀ d, d < 10 → (1024 : Nat).testBit d = false := by decide
    rw [h dg hdg] at hl
    exact absurd hl (by decide)
theorem OK.row {q k n : Nat} (h : OK X nr nb t ns np nn nt na dy) (hW : okW X) (hq : q < nr) (hk : k < 4) (hn : n ≤ 9) : OK (upd X (28 + 4 * q + k) (nI n)) nr nb t ns np nn nt na dy ∧ okW (upd X (28 + 4 * q + k) (nI n)) := by
  obtain ⟨hG, hT, h3, h4, h5, h6, h7, h8, h9, h10⟩ := h
  have r4 := hG.r4
  have ex : ∀ j, j ≠ 28 + 4 * q + k → (upd X (28 + 4 * q + k) (nI n)) j = X j := fun j q1 => upd_n q1
  refine ⟨⟨hG.cg (fun j hj => ex _ (by omega)), hT.congr (ex _ (by omega)) (fun j hj => ex _ (by omega)), h3.cg2 (Nat.le_refl _) (fun j hj => ex _ (by omega)), h4.cg (Nat.le_refl _) (fun j hj => ex _ (by omega)), h5.cg (Nat.le_refl _) (Nat.le_refl _) (fun j hj => ex _ (by omega)), h6.cg (fun j hj => ex _ (by omega)), h7.cg (fun j hj => ex _ (by omega)), h8.cg r4 (fun j _ _ => ex _ (by omega)), fun j q1 q2 => ?_, h10.1, (ex 0 (by omega)).trans h10.2⟩, fun j hj => ?_⟩
  · rw [ex _ (by omega)]; exact h9 j q1 q2
  · by_cases e : j = 4 * q + k
    · subst e; rw [show 28 + (4 * q + k) = 28 + 4 * q + k by omega, upd_s]; exact ⟨n, hn, rfl⟩
    · rw [ex _ (by omega)]; exact hW j hj
end KEEP
theorem inF_iff {v lo hi : Int32} : inF v lo hi = true ↔ lo.toInt ≤ v.toInt ∧ v.toInt ≤ hi.toInt := by
  rw [inF, Bool.and_eq_true, decide_eq_true_eq, decide_eq_true_eq, Int32.le_iff_toInt_le, Int32.le_iff_toInt_le]
theorem inF_ff {v lo hi : Int32} : inF v lo hi = false ↔ ¬ (lo.toInt ≤ v.toInt ∧ v.toInt ≤ hi.toInt) := by
  rw [← inF_iff, Bool.not_eq_true]
theorem okPt.cg {X Y : Nat → Int32} (h : okPt X) (e19 : Y 19 = X 19) (e : ∀ j, 194 ≤ j → Y j = X j) : okPt Y := by
  obtain ⟨n, h1, h2, h3⟩ := h
  refine ⟨n, h1, h2, ?_⟩
  have e1 : tellF Y 199 5 = tellF X 199 5 := by
    rw [tellF, tellF, e19]
    by_cases q : X 19 = -1
    · rw [if_pos q, if_pos q]
    · rw [if_neg q, if_neg q, e _ (by omega)]
  rw [← h3, pasteF, pasteF, e1]
