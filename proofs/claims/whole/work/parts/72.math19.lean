/-! THE CLASS'S READING, level by level -/
theorem nI_nle0 {n : Nat} (h0 : 0 < n) (h : n < 2 ^ 31) : ¬ nI n ≤ 0 := by
  intro q
  rw [Int32.le_iff_toInt_le, nI_toInt h, show (0 : Int32).toInt = 0 by decide] at q
  omega
def fR (F : Nat → Int32) (p : Nat) (v : Int32) : Nat → Int32 := upd (upd F 3 (nI p)) 4 v
theorem fR_2 {F : Nat → Int32} {p q : Nat} {v w : Int32} : upd (upd (fR F p v) 3 (nI q)) 4 w = fR F q w := upd34
theorem fR_3 {F : Nat → Int32} {p q : Nat} {v : Int32} : upd (fR F p v) 3 (nI q) = fR F q v := by
  funext j
  simp only [fR]
  by_cases e : j = 4
  · subst e; rw [upd_n (by decide), upd_s, upd_s]
  · by_cases e3 : j = 3
    · subst e3; rw [upd_s, upd_n (by decide), upd_s]
    · rw [upd_n e3, upd_n e, upd_n e3, upd_n e, upd_n e3]
theorem fR_id {F : Nat → Int32} {p : Nat} (h : F 3 = nI p) : fR F p (F 4) = F := by
  rw [fR, ← h, upd_self, upd_self]
theorem fR_4 {F : Nat → Int32} {p : Nat} : upd F 3 (nI p) = fR F p (F 4) := (upd_self (f := upd F 3 (nI p)) (k := 4)).symm
theorem PX2.cg {σ σ1 : xS} {o : Nat} {F : Nat → Int32} {T : Nat → Nat} {A : Nat → Nat → Int32} (h : PX2 σ o F T A) (e : ∀ i, σ1.2 (o, i) = σ.2 (o, i)) : PX2 σ1 o F T A := by
  unfold PX2 at h ⊢
  simp only [e]
  exact h
theorem PX3.cg {σ σ1 : xS} {o : Nat} {F : Nat → Int32} {T : Nat → Nat} {A : Nat → Nat → Int32} (h : PX3 σ o F T A) (e : ∀ i, σ1.2 (o, i) = σ.2 (o, i)) : PX3 σ1 o F T A := by
  unfold PX3 at h ⊢
  simp only [e]
  exact h
theorem tP.off {σ σ1 : xS} {tw o n0 : Nat} {F : Nat → Int32} {T : Nat → Nat} {A : Nat → Nat → Int32} {l : List Int32} (h : tP σ tw F T A n0 l) (ho : Off o σ σ1) (hne : tw ≠ o) : tP σ1 tw F T A n0 l := PX4.off h ho hne
theorem tP_nil {σ : xS} {tw n0 : Nat} {F : Nat → Int32} {T : Nat → Nat} {A : Nat → Nat → Int32} (h : PX4 σ tw F T A) (hn0 : F 3 = nI n0) : tP σ tw F T A n0 [] := by
  show PX4 σ tw (upd F 3 (nI n0)) T (upA A 1 (A 1))
  rw [upA_id, ← hn0, upd_self]
  exact h
theorem tP_app {σ : xS} {tw n0 : Nat} {F : Nat → Int32} {T : Nat → Nat} {A : Nat → Nat → Int32} {l l' : List Int32} (h : tP σ tw (upd F 3 (nI (n0 + l.length))) T (upA A 1 (wrC (A 1) n0 l)) (n0 + l.length) l') : tP σ tw F T A n0 (l ++ l') := by
  have h2 : PX4 σ tw (upd (upd F 3 (nI (n0 + l.length))) 3 (nI (n0 + l.length + l'.length))) T (upA (upA A 1 (wrC (A 1) n0 l)) 1 (wrC ((upA A 1 (wrC (A 1) n0 l)) 1) (n0 + l.length) l')) := h
  rw [upd_2, upA_2, upA_s] at h2
  show PX4 σ tw (upd F 3 (nI (n0 + (l ++ l').length))) T (upA A 1 (wrC (A 1) n0 (l ++ l')))
  rw [wrC_app, List.length_append, ← Nat.add_assoc]
  exact h2
/-- one more, and the sign behind it -/
def jW (f : Nat → pR) (op i p : Nat) (l : List xI) : pR := ((f p).1, (f p).2.1, l ++ ((f p).2.2 ++ (if 0 < i ∧ (f p).1 = true then [.inr op] else [])))
theorem jW_0 {f : Nat → pR} {op p : Nat} : jW f op 0 p [] = f p := by
  rw [jW, if_neg (fun q => absurd q.1 (Nat.lt_irrefl 0)), List.append_nil, List.nil_append]
theorem jW_s {H : Nat → Int32} {f : Nat → pR} {c : Int32} {op n i p : Nat} {l : List xI} (hok : (f p).1 = true) (h : H (f p).2.1 = c) : lpJ H f c op (n + 1) (jW f op i p l) = lpJ H f c op n (jW f op (i + 1) ((f p).2.1 + 1) (jW f op i p l).2.2) := by
  rw [lpJ, if_pos (show (jW f op i p l).1 = true ∧ H (jW f op i p l).2.1 = c from ⟨hok, h⟩)]
  congr 1
  show _ = ((f ((f p).2.1 + 1)).1, (f ((f p).2.1 + 1)).2.1, (jW f op i p l).2.2 ++ ((f ((f p).2.1 + 1)).2.2 ++ (if 0 < i + 1 ∧ (f ((f p).2.1 + 1)).1 = true then [Sum.inr op] else [])))
  have e : (0 < i + 1 ∧ (f ((f p).2.1 + 1)).1 = true) = ((f ((f p).2.1 + 1)).1 = true) := propext ⟨fun q => q.2, fun q => ⟨Nat.succ_pos i, q⟩⟩
  simp only [e]
  rfl
theorem jW_n {f : Nat → pR} {op i p : Nat} {l : List xI} (h : ¬ (0 < i ∧ (f p).1 = true)) : (jW f op i p l).2.2 = l ++ (f p).2.2 := by
  show l ++ ((f p).2.2 ++ (if 0 < i ∧ (f p).1 = true then [Sum.inr op] else [])) = _
  rw [if_neg h, List.append_nil]
theorem jW_y {f : Nat → pR} {op i p : Nat} {l : List xI} (h0 : 0 < i) (h : (f p).1 = true) : (jW f op i p l).2.2 = l ++ ((f p).2.2 ++ [.inr op]) := by
  show l ++ ((f p).2.2 ++ (if 0 < i ∧ (f p).1 = true then [Sum.inr op] else [])) = _
  rw [if_pos ⟨h0, h⟩]
