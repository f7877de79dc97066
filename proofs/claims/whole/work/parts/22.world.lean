/-! THE CLASS'S WORLD beside the reference's row -/
def encC : xI → Int32
  | .inl q => nI ((q.1 * 3 + q.2.1) * 100 + q.2.2)
  | .inr 0 => -1
  | .inr 1 => -2
  | .inr _ => -3
def flC (f : xFe) : List Int32 := f.1.map encC
/-- the class's TOWN at tw is t -/
def TWc (F : Nat → Int32) (A : Nat → Nat → Int32) (t : xT) : Prop :=
  F 5 = t.1 ∧ F 6 = t.2.1 ∧ (∀ f ∈ t.2.2, okF f) ∧ t.2.2.length ≤ 10 ∧ F 4 = nI t.2.2.length ∧ (t.2.2.flatMap flC).length ≤ 100 ∧ F 3 = nI (t.2.2.flatMap flC).length ∧
  (∀ i, i < (t.2.2.flatMap flC).length → A 1 i = (t.2.2.flatMap flC).getD i 0) ∧ ∀ c, c < t.2.2.length → A 2 c = wor (t.2.2.getD c ([], true, 0)) ∧ A 3 c = nI ((t.2.2.take (c + 1)).flatMap flC).length
def TW (σ : xS) (tw : Nat) (t : xT) : Prop := ∃ F T A, PX4 σ tw F T A ∧ TWc F A t
def subD (X : Nat → Int32) (r b dg : Nat) : Nat → Int32 := fun i => match i with
  | 0 => nI r
  | 1 => X (20 + r)
  | 2 => X (24 + r)
  | 3 => nI b
  | 4 => X (5 + b) / 10
  | _ => nI dg
def RWc (F : Nat → Int32) (A : Nat → Nat → Int32) (X : Nat → Int32) (nr nb : Nat) (t : xT) (ln : Nat) : Prop :=
  (∀ b, b < 7 → A 1 b = X (5 + b)) ∧ (∀ r, r < 4 → A 2 r = X (20 + r)) ∧ (∀ r, r < 4 → A 3 r = X (24 + r)) ∧ (∀ r, r < nr → A 4 r = orN (X (1 + r))) ∧ (∀ k, k < 16 → A 5 k = X (28 + k)) ∧
  F 8 = nI nb ∧ F 9 = nI nr ∧ F 10 = X 0 ∧ F 11 = X 14 ∧ ln ≤ 1024 ∧ (F 7 = nI ln ∨ ln = 1024) ∧ ∀ dg, dg < 10 → ln.testBit dg = true → ∀ r, r < nr → ∀ b, b < nb → A 6 ((dg * 4 + r) * 7 + b) = plT t (subD X r b dg)
/-- the class's World at w is X, with the TOWN t -/
def WB (σ : xS) (w : Nat) (X : Nat → Int32) (nr nb : Nat) (t : xT) (F : Nat → Int32) (T : Nat → Nat) (A : Nat → Nat → Int32) (ln : Nat) : Prop :=
  PX5 σ w F T A ∧ RWc F A X nr nb t ln ∧ TW σ (T 12) t ∧ w ≠ T 12 ∧ Gd X nr nb ∧ Hd X t
theorem TW.off {σ σ1 : xS} {o tw : Nat} {t : xT} (h : TW σ tw t) (ho : Off o σ σ1) (hne : tw ≠ o) : TW σ1 tw t := by
  obtain ⟨F, T, A, h1, h2⟩ := h
  exact ⟨F, T, A, h1.off ho hne, h2⟩
theorem WB.off {σ σ1 : xS} {o w : Nat} {X : Nat → Int32} {nr nb : Nat} {t : xT} {F : Nat → Int32} {T : Nat → Nat} {A : Nat → Nat → Int32} {ln : Nat} (h : WB σ w X nr nb t F T A ln) (ho : Off o σ σ1) (hne : w ≠ o) (hne2 : T 12 ≠ o) : WB σ1 w X nr nb t F T A ln :=
  ⟨h.1.off ho hne, h.2.1, h.2.2.1.off ho hne2, h.2.2.2⟩
theorem nI_nm1 {n : Nat} (hn : n < 2 ^ 31) : ¬ nI n = -1 := by
  intro q
  have := congrArg Int32.toInt q
  rw [nI_toInt hn] at this
  have e : (-1 : Int32).toInt = -1 := by decide
  omega
theorem Hd.tell {X : Nat → Int32} {a w : Nat} {y : Int32} (h1 : X 19 = nI a) (ha : a < 5) : tellF X w y = X (w + a) := by
  rw [tellF, h1, if_neg (nI_nm1 (by omega)), nI_clamp (by omega)]
theorem Hd.gap {X : Nat → Int32} {t : xT} (h : Hd X t) : gapF X = t.1 := by
  rcases h with ⟨h1, rfl⟩ | ⟨a, ha, h1, h2⟩
  · rw [gapF, tellF, if_pos h1]; rfl
  · rw [gapF, Hd.tell h1 ha]
    exact h2.1
theorem Hd.paste {X : Nat → Int32} {t : xT} (h : Hd X t) : pasteF X = t.2.1 := by
  rcases h with ⟨h1, rfl⟩ | ⟨a, ha, h1, h2⟩
  · have e : tellF X 199 5 = 5 := by rw [tellF, if_pos h1]
    rw [pasteF, e]; rfl
  · have e : tellF X 199 5 = X (199 + a) := Hd.tell h1 ha
    rw [pasteF, e]
    exact h2.2.1
theorem nI_nm5 {n : Nat} (hn : n < 2 ^ 31) : ¬ nI n = -5 := by
  intro q
  have := congrArg Int32.toInt q
  rw [nI_toInt hn] at this
  have e : (-5 : Int32).toInt = -5 := by decide
  omega
theorem inF_nat {v : Int32} {n : Nat} (hn : n ≤ 100000) (h : inF v 0 (nI n - 1) = true) : ∃ q, q < n ∧ v = nI q := by
  simp only [inF, Bool.and_eq_true, decide_eq_true_eq] at h
  obtain ⟨h1, h2⟩ := h
  obtain ⟨j, hj, rfl⟩ := nI_of (x := v) (Int32.not_lt.mpr h1)
  refine ⟨j, ?_, rfl⟩
  rw [Int32.le_iff_toInt_le, nI_toInt hj] at h2
  cases n with
  | zero => have e : (nI 0 - 1).toInt = -1 := by decide
            omega
  | succ n =>
    have e1 : nI (n + 1) - 1 = nI n := nI_pred n
    rw [e1, nI_toInt (by omega)] at h2
    omega
theorem inF_of {n q : Nat} (hn : n ≤ 100000) (hq : q < n) : inF (nI q) 0 (nI n - 1) = true := by
  cases n with
  | zero => exact absurd hq (Nat.not_lt_zero q)
  | succ n =>
    have e1 : nI (n + 1) - 1 = nI n := nI_pred n
    rw [e1]
    simp only [inF, Bool.and_eq_true, decide_eq_true_eq]
    exact ⟨nI_pos' (by omega), nI_le (by omega) (by omega)⟩
theorem inF_lt {v : Int32} {n : Nat} (hn : n ≤ 100000) : inF v 0 (nI n - 1) = (decide (0 ≤ v) && decide (v < nI n)) := by
  cases hq : inF v 0 (nI n - 1) with
  | true =>
    obtain ⟨q, h1, rfl⟩ := inF_nat hn hq
    rw [decide_eq_true (nI_pos' (by omega)), decide_eq_true (nI_lt h1 (by omega))]
    rfl
  | false =>
    cases h2 : (decide (0 ≤ v) && decide (v < nI n)) with
    | false => rfl
    | true =>
      simp only [Bool.and_eq_true, decide_eq_true_eq] at h2
      obtain ⟨j, hj, rfl⟩ := nI_of (x := v) (Int32.not_lt.mpr h2.1)
      rw [nI_ltI hj (by omega)] at h2
      rw [inF_of hn h2.2] at hq
      cases hq
theorem orN_ne {x : Int32} (h : ¬ orN x = -5) : ¬ x = -1 := fun q => h (by rw [orN, if_pos q])
theorem orN_nI {n : Nat} (hn : n < 2 ^ 31) : orN (nI n) = nI n := by rw [orN, if_neg (nI_nm1 hn)]
theorem WB.has5 {X : Nat → Int32} {nr nb r : Nat} (hG : Gd X nr nb) (hr : r < nr) (h : orN (X (1 + r)) = -5) : X (1 + r) = -1 := by
  rcases hG.2.1 r hr with q | ⟨b, hb, q⟩
  · exact q
  · rw [q, orN_nI (by have := hG.b7; omega)] at h
    exact absurd h (nI_nm5 (by have := hG.b7; omega))
def maxF (x y : Int32) : Int32 := if x < y then y else x
def minF (x y : Int32) : Int32 := if y < x then y else x
def thF (g x y : Int32) : Bool := decide (maxF 1 g ≤ x - y)
theorem thF_eq (g x y : Int32) : thF g x y = (decide (1 ≤ x - y) && decide (g ≤ x - y)) := by
  rw [thF, maxF]
  generalize x - y = d
  by_cases h : 1 < g
  · rw [if_pos h]
    by_cases h2 : g ≤ d
    · have : (1 : Int32) ≤ d := by
        rw [Int32.le_iff_toInt_le] at h2 ⊢
        rw [Int32.lt_iff_toInt_lt] at h
        omega
      simp [h2, this]
    · simp [h2]
  · rw [if_neg h]
    by_cases h2 : (1 : Int32) ≤ d
    · have : g ≤ d := by
        rw [Int32.le_iff_toInt_le] at h2 ⊢
        rw [Int32.lt_iff_toInt_lt] at h
        omega
      simp [h2, this]
    · simp [h2]
theorem may_no {X : Nat → Int32} {nr r b : Nat} (h : X (1 + r) = -1) : mayF X nr r b = false := by
  rw [mayF, thickerF, if_pos h, show decide ((1 : Int32) ≤ 0) = false by decide]
  simp
theorem may_off {X : Nat → Int32} {nr r b : Nat} (h : onF X nr (nI b) = false) : mayF X nr r b = false := by
  rw [mayF, h]; rfl
theorem may_th {X : Nat → Int32} {nr r b h : Nat} (hh : h < 100) (he : X (1 + r) = nI h) (ho : onF X nr (nI b) = true) {g : Int32} (hg : gapF X = g) : mayF X nr r b = thF g (X (5 + h)) (X (5 + b)) := by
  rw [mayF, ho, Bool.true_and, thickerF, he, if_neg (nI_nm1 (by omega)), nI_clamp (by omega), hg, thF_eq]
theorem hold5 {X : Nat → Int32} {nr : Nat} {b : Int32} (h4 : nr ≤ 4) : orN (holdF X nr b) = -5 ↔ onF X nr b = true := by
  rw [← holdF_on h4]
  constructor
  · intro h
    by_cases q : holdF X nr b = -1
    · exact q
    · obtain ⟨j, hj, he⟩ := holdF_has q
      rw [he, orN_nI (by omega)] at h
      exact absurd h (nI_nm5 (by omega))
  · intro h; rw [orN, if_pos h]
theorem RWc.day {F : Nat → Int32} {A : Nat → Nat → Int32} {X : Nat → Int32} {nr nb : Nat} {t : xT} {ln : Nat} (h : RWc F A X nr nb t ln) : F 10 = X 0 := h.2.2.2.2.2.2.2.1
