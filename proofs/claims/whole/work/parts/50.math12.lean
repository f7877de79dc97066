/-! what WAYS answer -/
theorem tk_s {ql : wQ} {k : Nat} (h : k < ql.length) : ql.take (k + 1) = ql.take k ++ [gQ ql k] := by
  rw [List.take_succ, List.getElem?_eq_getElem h, gQ, List.getD_eq_getElem?_getD, List.getElem?_eq_getElem h]
  rfl
theorem tk_e {ql : wQ} {k : Nat} (h : ¬ k < ql.length) : ql.take k = ql := List.take_of_length_le (by omega)
theorem few_hit {ql : wQ} {k r : Nat} {b : Int32} (h : k < ql.length) (h1 : (ql.take k).find? (fun q => hsW q.1 r == b) = none) (h2 : hsW (gQ ql k).1 r = b) : fewL ql r b = nI (gQ ql k).2 := by
  have e : ql.find? (fun q => hsW q.1 r == b) = some (gQ ql k) := by
    have e1 : ql = ql.take (k + 1) ++ ql.drop (k + 1) := (List.take_append_drop _ _).symm
    refine (congrArg (List.find? (fun q => hsW q.1 r == b)) e1).trans ?_
    rw [List.find?_append, tk_s h, List.find?_append, h1]
    simp [h2]
  rw [fewL, e]
theorem few_miss {ql : wQ} {r : Nat} {b : Int32} (h1 : ql.find? (fun q => hsW q.1 r == b) = none) : fewL ql r b = -5 := by rw [fewL, h1]
def reachL (ql : wQ) (nb r : Nat) : Int32 := itr (fun b a => a ||| (if fewL ql r (nI b) = -5 then (0 : Int32) else 1 <<< (nI b &&& 31))) 0 nb
def neverL (ql : wQ) (nr nb : Nat) : Int32 := itr (fun r a => a &&& (reachL ql nb r ^^^ -1)) ((1 <<< (nI nb &&& 31)) - 1) nr
noncomputable def theQ (X : Nat → Int32) (t : xT) (nr nb : Nat) : wQ := Classical.epsilon (fun ql => RES X t nr nb ql)
theorem theQ_ok {X : Nat → Int32} {t : xT} {nr nb : Nat} {ql : wQ} (h : RES X t nr nb ql) : RES X t nr nb (theQ X t nr nb) := Classical.epsilon_spec (p := fun ql => RES X t nr nb ql) ⟨ql, h⟩
theorem few_q {X : Nat → Int32} {t : xT} {nr nb r : Nat} {b : Int32} {ql : wQ} (h : RES X t nr nb ql) : fewL (theQ X t nr nb) r b = fewL ql r b := few_one (theQ_ok h) h
theorem reach_q {X : Nat → Int32} {t : xT} {nr nb r : Nat} {ql : wQ} (h : RES X t nr nb ql) : reachL (theQ X t nr nb) nb r = reachL ql nb r := by
  rw [reachL, reachL]
  congr 1
  funext b a
  rw [few_q h]
theorem never_q {X : Nat → Int32} {t : xT} {nr nb : Nat} {ql : wQ} (h : RES X t nr nb ql) : neverL (theQ X t nr nb) nr nb = neverL ql nr nb := by
  rw [neverL, neverL]
  congr 1
  funext r a
  rw [reach_q h]
noncomputable def v_few (X : Nat → Int32) (t : xT) (nr nb : Nat) (v b : Int32) : Int32 := if inF v 0 (nI nr - 1) = true ∧ inF b 0 (nI nb - 1) = true then fewL (theQ X t nr nb) (cl v) b else -1
noncomputable def v_reach (X : Nat → Int32) (t : xT) (nr nb : Nat) (v : Int32) : Int32 := if inF v 0 (nI nr - 1) = true then reachL (theQ X t nr nb) nb (cl v) else -1
noncomputable def v_never (X : Nat → Int32) (t : xT) (nr nb : Nat) : Int32 := neverL (theQ X t nr nb) nr nb
/-- the best way and its TOTAL -/
def mstep (X : Nat → Int32) (t : xT) (nr : Nat) (o : Option (Nat × Int32)) (q : Nat × Nat) : Option (Nat × Int32) := match o with
  | none => some (q.1, totF (setW X nr q.1) t nr)
  | some p => if p.2 < totF (setW X nr q.1) t nr ∨ (totF (setW X nr q.1) t nr = p.2 ∧ q.1 < p.1) then some (q.1, totF (setW X nr q.1) t nr) else some p
def mostL (X : Nat → Int32) (t : xT) (nr : Nat) (ql : wQ) : Option (Nat × Int32) := ql.foldl (mstep X t nr) none
def isTop (X : Nat → Int32) (t : xT) (nr : Nat) (ql : wQ) (p : Nat × Int32) : Prop := (∃ q ∈ ql, q.1 = p.1) ∧ p.2 = totF (setW X nr p.1) t nr ∧ ∀ q ∈ ql, totF (setW X nr q.1) t nr < p.2 ∨ (totF (setW X nr q.1) t nr = p.2 ∧ p.1 ≤ q.1)
theorem most_top {X : Nat → Int32} {t : xT} {nr : Nat} (ql : wQ) : ∀ k, k ≤ ql.length → (mostL X t nr (ql.take k) = none ∧ k = 0) ∨ ∃ p, mostL X t nr (ql.take k) = some p ∧ isTop X t nr (ql.take k) p := by
  intro k
  induction k with
  | zero => intro _; exact Or.inl ⟨rfl, rfl⟩
  | succ k ih =>
    intro hk
    have hs := tk_s (ql := ql) (k := k) (by omega)
    have e : mostL X t nr (ql.take (k + 1)) = mstep X t nr (mostL X t nr (ql.take k)) (gQ ql k) := by
      rw [mostL, mostL, hs, List.foldl_append]
      rfl
    refine Or.inr ?_
    rw [e]
    rcases ih (by omega) with ⟨h, hk0⟩ | ⟨p, h, ⟨q0, hq0, e0⟩, h2, h3⟩
    · refine ⟨((gQ ql k).1, totF (setW X nr (gQ ql k).1) t nr), by rw [h]; rfl, ⟨gQ ql k, by rw [hs]; exact List.mem_append_right _ (List.mem_singleton.mpr rfl), rfl⟩, rfl, ?_⟩
      intro q hq
      rw [hs, hk0] at hq
      rcases List.mem_append.mp hq with hq | hq
      · rw [List.take_zero] at hq; exact absurd hq (List.not_mem_nil)
      · rw [List.mem_singleton.mp hq, hk0]; exact Or.inr ⟨rfl, Nat.le_refl _⟩
    · rw [h]
      by_cases c : p.2 < totF (setW X nr (gQ ql k).1) t nr ∨ (totF (setW X nr (gQ ql k).1) t nr = p.2 ∧ (gQ ql k).1 < p.1)
      · refine ⟨((gQ ql k).1, totF (setW X nr (gQ ql k).1) t nr), if_pos c, ⟨gQ ql k, by rw [hs]; exact List.mem_append_right _ (List.mem_singleton.mpr rfl), rfl⟩, rfl, ?_⟩
        intro q hq
        rw [hs] at hq
        rcases List.mem_append.mp hq with hq | hq
        · rcases h3 q hq with a | ⟨a, b⟩
          · rcases c with c | ⟨c, d⟩
            · exact Or.inl (Int32.lt_trans a c)
            · exact Or.inl (by rw [c]; exact a)
          · rcases c with c | ⟨c, d⟩
            · exact Or.inl (by rw [a]; exact c)
            · exact Or.inr ⟨a.trans c.symm, by show (gQ ql k).1 ≤ q.1; omega⟩
        · rw [List.mem_singleton.mp hq]; exact Or.inr ⟨rfl, Nat.le_refl _⟩
      · refine ⟨p, if_neg c, ⟨q0, by rw [hs]; exact List.mem_append_left _ hq0, e0⟩, h2, ?_⟩
        intro q hq
        rw [hs] at hq
        rcases List.mem_append.mp hq with hq | hq
        · exact h3 q hq
        · rw [List.mem_singleton.mp hq]
          have c1 : ¬ p.2 < totF (setW X nr (gQ ql k).1) t nr := fun z => c (Or.inl z)
          by_cases e1 : totF (setW X nr (gQ ql k).1) t nr = p.2
          · refine Or.inr ⟨e1, ?_⟩
            by_cases e2 : (gQ ql k).1 < p.1
            · exact absurd (Or.inr ⟨e1, e2⟩) c
            · omega
          · refine Or.inl ?_
            rcases Int32.lt_or_eq_of_le (Int32.not_lt.mp c1) with z | z
            · exact z
            · exact absurd z e1
theorem mostL_top {X : Nat → Int32} {t : xT} {nr nb : Nat} {ql : wQ} (h : RES X t nr nb ql) : ∃ p, mostL X t nr ql = some p ∧ isTop X t nr ql p := by
  obtain ⟨q, hq, -, -⟩ := h.2.2.1 0 (wayX X nr) rfl
  have hl : 0 < ql.length := List.length_pos_of_mem hq
  have := most_top (X := X) (t := t) (nr := nr) ql ql.length (Nat.le_refl _)
  rw [List.take_length] at this
  rcases this with ⟨-, e⟩ | z
  · omega
  · exact z
theorem top_one {X : Nat → Int32} {t : xT} {nr nb : Nat} {ql ql' : wQ} (h : RES X t nr nb ql) (h' : RES X t nr nb ql') {p p' : Nat × Int32} (hp : isTop X t nr ql p) (hp' : isTop X t nr ql' p') : p = p' := by
  have key : ∀ {ql ql' : wQ}, RES X t nr nb ql → RES X t nr nb ql' → ∀ {p p' : Nat × Int32}, isTop X t nr ql p → isTop X t nr ql' p' → p.2 < p'.2 ∨ (p.2 = p'.2 ∧ p'.1 ≤ p.1) := by
    intro ql ql' h h' p p' hp hp'
    obtain ⟨⟨q, hq, e⟩, h2, -⟩ := hp
    obtain ⟨q2, a1, a2, -⟩ := h'.2.2.1 _ _ (h.2.1 q hq)
    have := hp'.2.2 q2 a1
    rw [a2, e, ← h2] at this
    exact this
  rcases key h h' hp hp' with a | ⟨a1, a2⟩
  · rcases key h' h hp' hp with b | ⟨b1, b2⟩
    · exact absurd (Int32.lt_trans a b) (fun z => Int32.lt_irrefl z)
    · rw [b1] at a; exact absurd a (fun z => Int32.lt_irrefl z)
  · rcases key h' h hp' hp with b | ⟨b1, b2⟩
    · rw [a1] at b; exact absurd b (fun z => Int32.lt_irrefl z)
    · exact Prod.ext (by omega) a1
theorem most_q {X : Nat → Int32} {t : xT} {nr nb : Nat} {ql : wQ} (h : RES X t nr nb ql) : mostL X t nr (theQ X t nr nb) = mostL X t nr ql := by
  obtain ⟨p, e, hp⟩ := mostL_top h
  obtain ⟨p', e', hp'⟩ := mostL_top (theQ_ok h)
  rw [e, e', top_one (theQ_ok h) h hp' hp]
theorem lkQ_one {X : Nat → Int32} {t : xT} {nr nb c : Nat} {ql ql' : wQ} (h : RES X t nr nb ql) (h' : RES X t nr nb ql') (hc : ∃ q ∈ ql, q.1 = c) : lkQ ql c = lkQ ql' c := by
  obtain ⟨q, hq, rfl⟩ := hc
  obtain ⟨q', a1, a2, a3⟩ := h'.2.2.1 _ _ (h.2.1 q hq)
  obtain ⟨q2, b1, b2, b3⟩ := h.2.2.1 _ _ (h'.2.1 q' a1)
  have e : q2 = q := nd_inj h.1.1 b1 hq (b2.trans a2)
  subst e
  rw [lkQ_mem h.1 hq, ← a2, lkQ_mem h'.1 a1, show q2.2 = q'.2 by omega]
noncomputable def v_most (X : Nat → Int32) (t : xT) (nr nb : Nat) (w : Int32) : Int32 := if inF w 0 1 = true ∨ inF (w - 10) 0 (nI nr - 1) = true then (match mostL X t nr (theQ X t nr nb) with
  | none => 0
  | some p => if w = 0 then p.2 else if w = 1 then lkQ (theQ X t nr nb) p.1 else orN (hsW p.1 (cl (w - 10)))) else -10001
theorem mostL_s {X : Nat → Int32} {t : xT} {nr k : Nat} {ql : wQ} (h : k < ql.length) : mostL X t nr (ql.take (k + 1)) = mstep X t nr (mostL X t nr (ql.take k)) (gQ ql k) := by
  rw [mostL, mostL, tk_s h, List.foldl_append]
  rfl
def relO (o : Option (Nat × Int32)) (mw mt : Int32) : Prop := match o with
  | none => mw = -1
  | some p => mw = nI p.1 ∧ mt = p.2 ∧ p.1 < 4096
theorem in01 {w : Int32} (h : inF w 0 1 = true) (h0 : ¬ w = 0) (h1 : ¬ w = 1) : False := by
  obtain ⟨k, hk, rfl⟩ := in_N (w := w) (n := 1) (by decide) h
  rcases (show k = 0 ∨ k = 1 by omega) with rfl | rfl
  · exact h0 rfl
  · exact h1 rfl
