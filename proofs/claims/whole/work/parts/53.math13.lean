/-! READING A TOWN: H p is the sign at the place p, -1 behind the end -/
abbrev pR : Type := Bool × Nat × List xI
def mustP (H : Nat → Int32) (c : Int32) (s : Bool × Nat) : Bool × Nat := if s.1 = true ∧ H s.2 = c then (true, s.2 + 1) else (false, s.2)
def spelP (H : Nat → Int32) (w : List Int32) (s : Bool × Nat) : Bool × Nat := w.foldl (fun s c => mustP H c s) s
def dgP (x : Int32) : Bool := inF x 48 57
def figP (H : Nat → Int32) (s : Bool × Nat) : (Bool × Nat) × Nat := if s.1 = true ∧ dgP (H s.2) = true then (if 0 < cl (H s.2) - 48 ∧ dgP (H (s.2 + 1)) = true then ((true, s.2 + 2), 10 * (cl (H s.2) - 48) + (cl (H (s.2 + 1)) - 48)) else ((true, s.2 + 1), cl (H s.2) - 48)) else ((false, s.2), 0)
def amoP (i : Nat) (x : Int32) : Option Nat := fst (fun k => (sByt i).getD k 0 == x) (sByt i).length
def testP (H : Nat → Int32) (p : Nat) : pR := match amoP 4 (H p) with
  | none => (false, p, [])
  | some a => match amoP 5 (H (p + 1)) with
    | none => (false, p + 1, [])
    | some c => ((figP H (true, p + 2)).1.1, (figP H (true, p + 2)).1.2, if (figP H (true, p + 2)).1.1 = true then [.inl (a, c, (figP H (true, p + 2)).2)] else [])
def lpJ (H : Nat → Int32) (f : Nat → pR) (c : Int32) (op : Nat) : Nat → pR → pR
  | 0, r => r
  | n + 1, r => if r.1 = true ∧ H r.2.1 = c then lpJ H f c op n ((f (r.2.1 + 1)).1, (f (r.2.1 + 1)).2.1, r.2.2 ++ ((f (r.2.1 + 1)).2.2 ++ (if (f (r.2.1 + 1)).1 = true then [.inr op] else []))) else r
def tofP (H : Nat → Int32) (f : Nat → pR) (p : Nat) : pR := lpJ H f 38 1 100 (f p)
def eofP (H : Nat → Int32) (f : Nat → pR) (p : Nat) : pR := lpJ H (tofP H f) 124 2 100 (tofP H f p)
def factP (H : Nat → Int32) : Nat → Nat → pR
  | 0, p => if H p = 33 ∨ H p = 40 then (false, p, []) else testP H p
  | d + 1, p => if H p = 33 then ((factP H d (p + 1)).1, (factP H d (p + 1)).2.1, (factP H d (p + 1)).2.2 ++ (if (factP H d (p + 1)).1 = true then [.inr 0] else [])) else
    if H p = 40 then ((mustP H 41 ((eofP H (factP H d) (p + 1)).1, (eofP H (factP H d) (p + 1)).2.1)).1, (mustP H 41 ((eofP H (factP H d) (p + 1)).1, (eofP H (factP H d) (p + 1)).2.1)).2, (eofP H (factP H d) (p + 1)).2.2) else testP H p
/-- the place goes on, as do the items -/
def goP (nt p : Nat) (r : pR) : Prop := p ≤ r.2.1 ∧ r.2.1 ≤ nt ∧ (r.1 = true → p < r.2.1) ∧ r.2.2.length + p ≤ r.2.1
/-- no sign behind the end -/
def Hend (H : Nat → Int32) (nt : Nat) : Prop := ∀ q, nt ≤ q → H q = -1
theorem Hend.lt {H : Nat → Int32} {nt p : Nat} {c : Int32} (h : Hend H nt) (hc : H p = c) (h0 : c ≠ -1) : p < nt := by
  rcases Nat.lt_or_ge p nt with q | q
  · exact q
  · exact absurd (hc.symm.trans (h p q)) h0
theorem dg_ne {x : Int32} (h : dgP x = true) : x ≠ -1 := by
  intro e
  subst e
  exact absurd h (by decide)
theorem amo_ne {i a : Nat} {x : Int32} (hi : i < 10) (h : amoP i x = some a) : x ≠ -1 := by
  intro e
  subst e
  have h1 := fst_some.mp h
  have h2 : ∀ i, i < 10 → ∀ k, k < (sByt i).length → ¬ ((sByt i).getD k 0 == -1) = true := by decide +kernel
  exact h2 i hi a h1.1 h1.2.1
theorem figP_go {H : Nat → Int32} {nt : Nat} (hH : Hend H nt) {s : Bool × Nat} (hp : s.2 ≤ nt) : s.2 ≤ (figP H s).1.2 ∧ (figP H s).1.2 ≤ nt ∧ ((figP H s).1.1 = true → s.2 < (figP H s).1.2) := by
  rw [figP]
  by_cases h : s.1 = true ∧ dgP (H s.2) = true
  · have h1 := hH.lt rfl (dg_ne h.2)
    rw [if_pos h]
    by_cases h2 : 0 < cl (H s.2) - 48 ∧ dgP (H (s.2 + 1)) = true
    · have h3 := hH.lt rfl (dg_ne h2.2)
      rw [if_pos h2]
      refine ⟨?_, ?_, fun _ => ?_⟩ <;> show _ <;> simp only <;> omega
    · rw [if_neg h2]
      refine ⟨?_, ?_, fun _ => ?_⟩ <;> show _ <;> simp only <;> omega
  · rw [if_neg h]
    exact ⟨Nat.le_refl _, hp, fun e => Bool.noConfusion e⟩
theorem testP_go {H : Nat → Int32} {nt : Nat} (hH : Hend H nt) {p : Nat} (hp : p ≤ nt) : goP nt p (testP H p) := by
  rw [testP]
  cases h1 : amoP 4 (H p) with
  | none => exact ⟨Nat.le_refl _, hp, fun e => Bool.noConfusion e, by show 0 + p ≤ p; omega⟩
  | some a =>
    have k1 := hH.lt rfl (amo_ne (by decide) h1)
    show goP nt p (match amoP 5 (H (p + 1)) with
      | none => (false, p + 1, [])
      | some c => ((figP H (true, p + 2)).1.1, (figP H (true, p + 2)).1.2, if (figP H (true, p + 2)).1.1 = true then [.inl (a, c, (figP H (true, p + 2)).2)] else []))
    cases h2 : amoP 5 (H (p + 1)) with
    | none => exact ⟨by show p ≤ p + 1; omega, by show p + 1 ≤ nt; omega, fun e => Bool.noConfusion e, by show 0 + p ≤ p + 1; omega⟩
    | some c =>
      have k2 := hH.lt rfl (amo_ne (by decide) h2)
      obtain ⟨f1, f2, f3⟩ := figP_go hH (s := (true, p + 2)) (by show p + 2 ≤ nt; omega)
      have f1 : p + 2 ≤ (figP H (true, p + 2)).1.2 := f1
      refine ⟨?_, f2, fun _ => ?_, ?_⟩
      · show p ≤ (figP H (true, p + 2)).1.2; omega
      · show p < (figP H (true, p + 2)).1.2; omega
      · show (if (figP H (true, p + 2)).1.1 = true then [Sum.inl (a, c, (figP H (true, p + 2)).2)] else ([] : List xI)).length + p ≤ (figP H (true, p + 2)).1.2
        split
        · show 1 + p ≤ _; omega
        · show 0 + p ≤ _; omega
theorem lpJ_go {H : Nat → Int32} {nt : Nat} (hH : Hend H nt) {f : Nat → pR} {c : Int32} {op : Nat} (hc : c ≠ -1) (hf : ∀ p, p ≤ nt → goP nt p (f p)) (p0 : Nat) : ∀ (n : Nat) (r : pR), goP nt p0 r → goP nt p0 (lpJ H f c op n r)
  | 0, r, h => h
  | n + 1, r, h => by
    rw [lpJ]
    by_cases e : r.1 = true ∧ H r.2.1 = c
    · rw [if_pos e]
      have hlt := hH.lt e.2 hc
      obtain ⟨a1, a2, a3, a4⟩ := hf (r.2.1 + 1) (by omega)
      obtain ⟨b1, b2, b3, b4⟩ := h
      refine lpJ_go hH hc hf p0 n _ ⟨?_, a2, fun _ => ?_, ?_⟩
      · show p0 ≤ (f (r.2.1 + 1)).2.1; omega
      · show p0 < (f (r.2.1 + 1)).2.1; omega
      · show (r.2.2 ++ ((f (r.2.1 + 1)).2.2 ++ (if (f (r.2.1 + 1)).1 = true then [Sum.inr op] else ([] : List xI)))).length + p0 ≤ (f (r.2.1 + 1)).2.1
        rw [List.length_append, List.length_append]
        split
        · rw [List.length_singleton]; omega
        · rw [List.length_nil]; omega
    · rw [if_neg e]; exact h
theorem tofP_go {H : Nat → Int32} {nt : Nat} (hH : Hend H nt) {f : Nat → pR} (hf : ∀ p, p ≤ nt → goP nt p (f p)) {p : Nat} (hp : p ≤ nt) : goP nt p (tofP H f p) := lpJ_go hH (by decide) hf p 100 _ (hf p hp)
theorem eofP_go {H : Nat → Int32} {nt : Nat} (hH : Hend H nt) {f : Nat → pR} (hf : ∀ p, p ≤ nt → goP nt p (f p)) {p : Nat} (hp : p ≤ nt) : goP nt p (eofP H f p) := lpJ_go hH (by decide) (fun q hq => tofP_go hH hf hq) p 100 _ (tofP_go hH hf hp)
theorem mustP_go {H : Nat → Int32} {nt : Nat} (hH : Hend H nt) {c : Int32} (hc : c ≠ -1) {s : Bool × Nat} (hp : s.2 ≤ nt) : s.2 ≤ (mustP H c s).2 ∧ (mustP H c s).2 ≤ nt := by
  rw [mustP]
  by_cases h : s.1 = true ∧ H s.2 = c
  · rw [if_pos h]
    have := hH.lt h.2 hc
    exact ⟨by show s.2 ≤ s.2 + 1; omega, by show s.2 + 1 ≤ nt; omega⟩
  · rw [if_neg h]; exact ⟨Nat.le_refl _, hp⟩
theorem factP_go {H : Nat → Int32} {nt : Nat} (hH : Hend H nt) : ∀ (d p : Nat), p ≤ nt → goP nt p (factP H d p)
  | 0, p, hp => by
    rw [factP]
    split
    · exact ⟨Nat.le_refl _, hp, fun e => Bool.noConfusion e, by show 0 + p ≤ p; omega⟩
    · exact testP_go hH hp
  | d + 1, p, hp => by
    rw [factP]
    by_cases h1 : H p = 33
    · rw [if_pos h1]
      have := hH.lt h1 (by decide)
      obtain ⟨a1, a2, a3, a4⟩ := factP_go hH d (p + 1) (by omega)
      refine ⟨?_, a2, fun _ => ?_, ?_⟩
      · show p ≤ (factP H d (p + 1)).2.1; omega
      · show p < (factP H d (p + 1)).2.1; omega
      · show ((factP H d (p + 1)).2.2 ++ (if (factP H d (p + 1)).1 = true then [Sum.inr 0] else ([] : List xI))).length + p ≤ (factP H d (p + 1)).2.1
        rw [List.length_append]
        split
        · rw [List.length_singleton]; omega
        · rw [List.length_nil]; omega
    · rw [if_neg h1]
      by_cases h2 : H p = 40
      · rw [if_pos h2]
        have := hH.lt h2 (by decide)
        obtain ⟨a1, a2, a3, a4⟩ := eofP_go hH (fun q hq => factP_go hH d q hq) (p := p + 1) (by omega)
        obtain ⟨b1, b2⟩ := mustP_go hH (c := 41) (by decide) (s := ((eofP H (factP H d) (p + 1)).1, (eofP H (factP H d) (p + 1)).2.1)) a2
        have b1 : (eofP H (factP H d) (p + 1)).2.1 ≤ (mustP H 41 ((eofP H (factP H d) (p + 1)).1, (eofP H (factP H d) (p + 1)).2.1)).2 := b1
        refine ⟨?_, b2, fun _ => ?_, ?_⟩
        · show p ≤ (mustP H 41 ((eofP H (factP H d) (p + 1)).1, (eofP H (factP H d) (p + 1)).2.1)).2; omega
        · show p < (mustP H 41 ((eofP H (factP H d) (p + 1)).1, (eofP H (factP H d) (p + 1)).2.1)).2; omega
        · show (eofP H (factP H d) (p + 1)).2.2.length + p ≤ (mustP H 41 ((eofP H (factP H d) (p + 1)).1, (eofP H (factP H d) (p + 1)).2.1)).2; omega
      · rw [if_neg h2]; exact testP_go hH hp
/-- with what may have failed already -/
def gFa (H : Nat → Int32) (d : Nat) (s : Bool × Nat) : pR := if s.1 = true then factP H d s.2 else (false, s.2, [])
def gTa (H : Nat → Int32) (d : Nat) (s : Bool × Nat) : pR := lpJ H (factP H d) 38 1 100 (gFa H d s)
def gEa (H : Nat → Int32) (d : Nat) (s : Bool × Nat) : pR := lpJ H (tofP H (factP H d)) 124 2 100 (gTa H d s)
/-- the reference's object: the place and whether it has failed -/
def fP (F : Nat → Int32) (s : Bool × Nat) : Nat → Int32 := upd (upd F 6 (nI s.2)) 8 (bI (!s.1))
theorem fP_2 {F : Nat → Int32} {s s2 : Bool × Nat} : fP (fP F s) s2 = fP F s2 := by
  funext j
  simp only [fP, upd]
  repeat' split <;> simp_all
theorem fP_id {F : Nat → Int32} {s : Bool × Nat} (h6 : F 6 = nI s.2) (h8 : F 8 = bI (!s.1)) : fP F s = F := by
  funext j
  simp only [fP, upd]
  repeat' split <;> simp_all
def wr1 (a : Nat) (X : Nat → Int32) (e : Int32) : Nat → Int32 := upd (upd X (209 + 140 * a + cl (X (204 + a))) e) (204 + a) (X (204 + a) + 1)
def wrL (a : Nat) (X : Nat → Int32) (l : List Int32) : Nat → Int32 := l.foldl (wr1 a) X
theorem wrL_app {a : Nat} {X : Nat → Int32} {l l' : List Int32} : wrL a (wrL a X l) l' = wrL a X (l ++ l') := List.foldl_append.symm
theorem wr1_lo {a j : Nat} {X : Nat → Int32} {e : Int32} (h : j < 204) : wr1 a X e j = X j := by
  rw [wr1, upd_n (by omega), upd_n (by omega)]
theorem wrL_lo {a j : Nat} (h : j < 204) : ∀ (l : List Int32) (X : Nat → Int32), wrL a X l j = X j
  | [], _ => rfl
  | e :: l, X => (wrL_lo h l (wr1 a X e)).trans (wr1_lo h)
theorem wrL_n {a : Nat} : ∀ (l : List Int32) (X : Nat → Int32) (n : Nat), X (204 + a) = nI n → wrL a X l (204 + a) = nI (n + l.length)
  | [], _, _, h => h
  | e :: l, X, n, h => by
    have := wrL_n l (wr1 a X e) (n + 1) (by rw [wr1, upd_s, h]; exact nI_1 n)
    rw [List.length_cons, show n + (l.length + 1) = n + 1 + l.length by omega]
    exact this
/-- what the reference's reading stands on -/
def PH (X F H : Nat → Int32) (nt a n0 : Nat) : Prop := nt ≤ 100 ∧ a < 5 ∧ Hend H nt ∧ (∀ q, q < nt → X (94 + q) = H q) ∧ F 7 = nI nt ∧ F 5 = nI a ∧ X (204 + a) = nI n0
theorem PH.go {X F H : Nat → Int32} {nt a n0 : Nat} (h : PH X F H nt a n0) {s : Bool × Nat} {l : List Int32} : PH (wrL a X l) (fP F s) H nt a (n0 + l.length) := by
  obtain ⟨h1, h2, h3, h4, h5, h6, h7⟩ := h
  exact ⟨h1, h2, h3, fun q hq => (wrL_lo (by omega) l X).trans (h4 q hq), h5, h6, wrL_n l X n0 h7⟩
theorem dg_nat {x : Int32} (h : dgP x = true) : ∃ c, 48 ≤ c ∧ c ≤ 57 ∧ x = nI c := by
  simp only [dgP, inF, Bool.and_eq_true, decide_eq_true_eq] at h
  have h1 := Int32.le_iff_toInt_le.mp h.1
  have h2 := Int32.le_iff_toInt_le.mp h.2
  rw [show (48 : Int32).toInt = 48 by decide] at h1
  rw [show (57 : Int32).toInt = 57 by decide] at h2
  have h3 : ¬ x < 0 := by
    rw [Int32.lt_iff_toInt_lt, show (0 : Int32).toInt = 0 by decide]
    omega
  obtain ⟨j, hj, rfl⟩ := nI_of h3
  rw [nI_toInt hj] at h1 h2
  exact ⟨j, by omega, by omega, rfl⟩
theorem amo_lt {i k : Nat} {x : Int32} (h : amoP i x = some k) : k < (sByt i).length := (fst_some.mp h).1
theorem fig_n {H : Nat → Int32} {p : Nat} (h : ¬ dgP (H p) = true) : figP H (true, p) = ((false, p), 0) := if_neg (fun q => h q.2)
theorem fig_1 {H : Nat → Int32} {p c : Nat} (h : dgP (H p) = true) (e : H p = nI c) (h48 : 48 ≤ c) (hc : c ≤ 57) (h2 : c = 48 ∨ ¬ dgP (H (p + 1)) = true) : figP H (true, p) = ((true, p + 1), c - 48) := by
  have hcl : cl (H p) = c := by rw [e]; exact cl_nI (by omega)
  rw [figP, if_pos ⟨rfl, h⟩, if_neg]
  · show ((true, p + 1), cl (H p) - 48) = _
    rw [hcl]
  · intro q
    have q1 : 0 < cl (H p) - 48 := q.1
    rcases h2 with h2 | h2
    · omega
    · exact h2 q.2
theorem fig_2 {H : Nat → Int32} {p c e : Nat} (h : dgP (H p) = true) (e1 : H p = nI c) (h48 : ¬ c = 48) (hc48 : 48 ≤ c) (hc : c ≤ 57) (h2 : dgP (H (p + 1)) = true) (e2 : H (p + 1) = nI e) (he : e ≤ 57) : figP H (true, p) = ((true, p + 2), 10 * (c - 48) + (e - 48)) := by
  have hcl : cl (H p) = c := by rw [e1]; exact cl_nI (by omega)
  have hcl2 : cl (H (p + 1)) = e := by rw [e2]; exact cl_nI (by omega)
  rw [figP, if_pos ⟨rfl, h⟩, if_pos]
  · show ((true, p + 2), 10 * (cl (H p) - 48) + (cl (H (p + 1)) - 48)) = _
    rw [hcl, hcl2]
  · show 0 < cl (H p) - 48 ∧ dgP (H (p + 1)) = true
    rw [hcl]
    exact ⟨by omega, h2⟩
theorem fa_bang {H : Nat → Int32} {d p : Nat} (h : H p = 33) : factP H (d + 1) p = ((factP H d (p + 1)).1, (factP H d (p + 1)).2.1, (factP H d (p + 1)).2.2 ++ (if (factP H d (p + 1)).1 = true then [.inr 0] else [])) := if_pos h
theorem fa_par {H : Nat → Int32} {d p : Nat} (h0 : ¬ H p = 33) (h : H p = 40) : factP H (d + 1) p = ((mustP H 41 ((eofP H (factP H d) (p + 1)).1, (eofP H (factP H d) (p + 1)).2.1)).1, (mustP H 41 ((eofP H (factP H d) (p + 1)).1, (eofP H (factP H d) (p + 1)).2.1)).2, (eofP H (factP H d) (p + 1)).2.2) := by
  rw [factP, if_neg h0, if_pos h]
theorem fa_end {H : Nat → Int32} {p : Nat} (h : H p = 33 ∨ H p = 40) : factP H 0 p = (false, p, []) := if_pos h
theorem fa_test {H : Nat → Int32} {d p : Nat} (h0 : ¬ H p = 33) (h : ¬ H p = 40) : factP H d p = testP H p := by
  cases d with
  | zero => exact if_neg (fun q => q.elim h0 h)
  | succ d => rw [factP, if_neg h0, if_neg h]
theorem te_n1 {H : Nat → Int32} {p : Nat} (h : amoP 4 (H p) = none) : testP H p = (false, p, []) := by rw [testP, h]
theorem te_n2 {H : Nat → Int32} {p a : Nat} (h : amoP 4 (H p) = some a) (h2 : amoP 5 (H (p + 1)) = none) : testP H p = (false, p + 1, []) := by
  rw [testP, h]
  show (match amoP 5 (H (p + 1)) with
    | none => (false, p + 1, [])
    | some c => ((figP H (true, p + 2)).1.1, (figP H (true, p + 2)).1.2, if (figP H (true, p + 2)).1.1 = true then [Sum.inl (a, c, (figP H (true, p + 2)).2)] else ([] : List xI))) = _
  rw [h2]
theorem te_s {H : Nat → Int32} {p a c : Nat} (h : amoP 4 (H p) = some a) (h2 : amoP 5 (H (p + 1)) = some c) : testP H p = ((figP H (true, p + 2)).1.1, (figP H (true, p + 2)).1.2, if (figP H (true, p + 2)).1.1 = true then [.inl (a, c, (figP H (true, p + 2)).2)] else []) := by
  rw [testP, h]
  show (match amoP 5 (H (p + 1)) with
    | none => (false, p + 1, [])
    | some c => ((figP H (true, p + 2)).1.1, (figP H (true, p + 2)).1.2, if (figP H (true, p + 2)).1.1 = true then [Sum.inl (a, c, (figP H (true, p + 2)).2)] else ([] : List xI))) = _
  rw [h2]
theorem gFa_go {H : Nat → Int32} {nt d : Nat} (hH : Hend H nt) {s : Bool × Nat} (hs : s.2 ≤ nt) : goP nt s.2 (gFa H d s) := by
  rw [gFa]
  split
  · exact factP_go hH d s.2 hs
  · exact ⟨Nat.le_refl _, hs, fun e => Bool.noConfusion e, by show 0 + s.2 ≤ s.2; omega⟩
theorem gTa_go {H : Nat → Int32} {nt d : Nat} (hH : Hend H nt) {s : Bool × Nat} (hs : s.2 ≤ nt) : goP nt s.2 (gTa H d s) := lpJ_go hH (by decide) (fun p hp => factP_go hH d p hp) s.2 100 _ (gFa_go hH hs)
theorem gEa_go {H : Nat → Int32} {nt d : Nat} (hH : Hend H nt) {s : Bool × Nat} (hs : s.2 ≤ nt) : goP nt s.2 (gEa H d s) := lpJ_go hH (by decide) (fun p hp => tofP_go hH (fun q hq => factP_go hH d q hq) hp) s.2 100 _ (gTa_go hH hs)
theorem lpJ_x {H : Nat → Int32} {f : Nat → pR} {c : Int32} {op : Nat} {r : pR} (h : ¬ (r.1 = true ∧ H r.2.1 = c)) : ∀ n, lpJ H f c op n r = r
  | 0 => rfl
  | n + 1 => by rw [lpJ, if_neg h]
theorem lpJ_s {H : Nat → Int32} {f : Nat → pR} {c : Int32} {op n p : Nat} {l : List xI} (h : H p = c) : lpJ H f c op (n + 1) (true, p, l) = lpJ H f c op n ((f (p + 1)).1, (f (p + 1)).2.1, l ++ ((f (p + 1)).2.2 ++ (if (f (p + 1)).1 = true then [.inr op] else []))) := if_pos ⟨rfl, h⟩
theorem enc_if {b : Bool} {op : Nat} {l : List xI} : (l ++ (if b = true then [Sum.inr op] else [])).map encR = l.map encR ++ (if b = true then [encR (.inr op)] else []) := by
  rw [List.map_append]
  split <;> rfl
/-- what a part of the reading leaves: the place, whether it has failed, and the items written -/
def pP (σ1 : xS) (m : Nat) (F : Nat → Int32) (T : Nat → Nat) (A : Nat → Nat → Int32) (a : Nat) (r : pR) : Prop := PX7 σ1 m (fP F (r.1, r.2.1)) T (upA A 1 (wrL a (A 1) (r.2.2.map encR)))
theorem F_ext {F G : Nat → Int32} (h6 : F 6 = G 6) (h8 : F 8 = G 8) (h9 : F 9 = G 9) (h : ∀ j, j ≠ 6 → j ≠ 8 → j ≠ 9 → F j = G j) : F = G := by
  funext j
  by_cases e6 : j = 6
  · subst e6; exact h6
  · by_cases e8 : j = 8
    · subst e8; exact h8
    · by_cases e9 : j = 9
      · subst e9; exact h9
      · exact h j e6 e8 e9
theorem must_f {H : Nat → Int32} {c : Int32} {p : Nat} : mustP H c (false, p) = (false, p) := if_neg (fun q => Bool.noConfusion q.1)
