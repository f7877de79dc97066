/-! THE CLASS'S READING -/
def tR (pa tw : Nat) : Nat → Nat := fun j => if j = 0 then pa + 1 else tw
theorem must_t {H : Nat → Int32} {c : Int32} {p : Nat} (h : H p = c) : mustP H c (true, p) = (true, p + 1) := if_pos ⟨rfl, h⟩
theorem must_x {H : Nat → Int32} {c : Int32} {p : Nat} (h : ¬ H p = c) : mustP H c (true, p) = (false, p) := if_neg (fun q => h q.2)
theorem spel_k {H : Nat → Int32} {w : List Int32} {k p : Nat} (hk : k ≤ w.length) (h : (spelP H (w.take k) (true, p)).1 = false) : (spelP H w (true, p)) = (false, (spelP H (w.take k) (true, p)).2) := by
  have e : spelP H w (true, p) = spelP H (w.drop k) (spelP H (w.take k) (true, p)) := by
    rw [spelP, spelP, spelP, ← List.foldl_append, List.take_append_drop]
  rw [e, show spelP H (w.take k) (true, p) = (false, (spelP H (w.take k) (true, p)).2) from Prod.ext h rfl]
  exact spelP_f _
def amL (i : Nat) (x : Int32) : Int32 := match amoP i x with
  | some k => nI k
  | none => -5
theorem amL_none {i : Nat} {x : Int32} (h : ∀ j, j < (sByt i).length → ¬ (sByt i).getD j 0 = x) : amL i x = -5 := by
  rw [amL, amoP, fst_none.mpr (fun j hj => beq_eq_false_iff_ne.mpr (h j hj))]
/-- a sign, or none -/
def isSg (x : Int32) : Prop := x = -1 ∨ ∃ c, c < 128 ∧ x = nI c
theorem cmp_ok {x : Int32} (hx : isSg x) : (if x < 60 then (-5 : Int32) else if 62 < x then -5 else x - 60) = amL 5 x := by
  rcases hx with rfl | ⟨c, hc, rfl⟩
  · decide +kernel
  · have h : ∀ c, c < 128 → (if nI c < 60 then (-5 : Int32) else if 62 < nI c then -5 else nI c - 60) = amL 5 (nI c) := by decide +kernel
    exact h c hc
theorem dg_sub {x : Int32} (hx : isSg x) : (dgP x = true ↔ ¬ x - 48 < 0 ∧ x - 48 ≤ 9) ∧ (dgP x = true → x - 48 = nI (cl x - 48) ∧ cl x - 48 ≤ 9) := by
  rcases hx with rfl | ⟨c, hc, rfl⟩
  · decide +kernel
  · have h : ∀ c, c < 128 → (dgP (nI c) = true ↔ ¬ nI c - 48 < 0 ∧ nI c - 48 ≤ 9) ∧ (dgP (nI c) = true → nI c - 48 = nI (cl (nI c) - 48) ∧ cl (nI c) - 48 ≤ 9) := by decide +kernel
    exact h c hc
theorem upd34 {F : Nat → Int32} {a b c d : Int32} : upd (upd (upd (upd F 3 a) 4 b) 3 c) 4 d = upd (upd F 3 c) 4 d := by
  funext j
  by_cases e : j = 4
  · subst e; rw [upd_s, upd_s]
  · rw [upd_n e, upd_n e]
    by_cases e3 : j = 3
    · subst e3; rw [upd_s, upd_s]
    · rw [upd_n e3, upd_n e, upd_n e3, upd_n e3]
theorem fig_x {H : Nat → Int32} {p : Nat} (h : ¬ dgP (H p) = true) : figP H (true, p) = ((false, p), 0) := if_neg (fun q => h q.2)
/-- what the class's TOWN is written, item by item -/
def wrC (g : Nat → Int32) (n : Nat) : List Int32 → Nat → Int32
  | [] => g
  | e :: l => wrC (upd g n e) (n + 1) l
theorem wrC_app {l l' : List Int32} : ∀ {g : Nat → Int32} {n : Nat}, wrC g n (l ++ l') = wrC (wrC g n l) (n + l.length) l' := by
  induction l with
  | nil => intro g n; rfl
  | cons e l ih =>
    intro g n
    show wrC (upd g n e) (n + 1) (l ++ l') = _
    rw [ih, List.length_cons, show n + (l.length + 1) = n + 1 + l.length by omega]
    rfl
/-- the TOWN that is being read: items after those that stand there -/
def tP (σ : xS) (tw : Nat) (F : Nat → Int32) (T : Nat → Nat) (A : Nat → Nat → Int32) (n0 : Nat) (l : List Int32) : Prop := PX4 σ tw (upd F 3 (nI (n0 + l.length))) T (upA A 1 (wrC (A 1) n0 l))
theorem amL_is {i : Nat} {x : Int32} (hi : i < 10) : (amL i x = -5 ∧ amoP i x = none) ∨ ∃ k, amoP i x = some k ∧ amL i x = nI k ∧ ¬ amL i x = -5 ∧ k < 6 := by
  rw [amL]
  cases h : amoP i x with
  | none => exact Or.inl ⟨rfl, rfl⟩
  | some k =>
    have h1 := amo_lt h
    have h2 := s_len i hi
    exact Or.inr ⟨k, rfl, rfl, nI_nneg (by omega) (by decide), by omega⟩
