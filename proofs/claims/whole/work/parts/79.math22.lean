/-! OBJECTS BEING MADE -/
theorem PX0.cg {σ σ1 : xS} {o : Nat} {F : Nat → Int32} {T : Nat → Nat} {A : Nat → Nat → Int32} (h : PX0 σ o F T A) (e : ∀ i, σ1.2 (o, i) = σ.2 (o, i)) : PX0 σ1 o F T A := by
  unfold PX0 at h ⊢
  simp only [e]
  exact h
theorem PX6.cg {σ σ1 : xS} {o : Nat} {F : Nat → Int32} {T : Nat → Nat} {A : Nat → Nat → Int32} (h : PX6 σ o F T A) (e : ∀ i, σ1.2 (o, i) = σ.2 (o, i)) : PX6 σ1 o F T A := by
  unfold PX6 at h ⊢
  simp only [e]
  exact h
theorem PX7.cg {σ σ1 : xS} {o : Nat} {F : Nat → Int32} {T : Nat → Nat} {A : Nat → Nat → Int32} (h : PX7 σ o F T A) (e : ∀ i, σ1.2 (o, i) = σ.2 (o, i)) : PX7 σ1 o F T A := by
  unfold PX7 at h ⊢
  simp only [e]
  exact h
theorem Ev.ab {G : xG} {μ : xM} {nL k n pc : Nat} {L : List (Nat × Value)} {S : List Value} {σ : xS} (P : xS → Prop) (h : P σ) (K : ∀ σ1 : xS, P σ1 → Ev G μ nL k n pc L S σ1) : Ev G μ nL k n pc L S σ := K σ h
/-- where cells stand -/
theorem Ev.dom {G : xG} {μ : xM} {nL k n pc : Nat} {L : List (Nat × Value)} {S : List Value} {σ : xS} (K : (∀ o i : Nat, σ.2 (o, i) ≠ none → o + i < σ.1) → Ev G μ nL k n pc L S σ) : Ev G μ nL k n pc L S σ := fun H locs ls hH hS hl => K (fun o i hne => by
  cases hv : σ.2 (o, i) with
  | none => exact absurd hv hne
  | some e => rw [← hH.1]; exact (hH.2.2.1 o i e hv).lt) H locs ls hH hS hl
/-- the object o on its way: fields fs, n rows made of those in tab, the next address sz; below o nothing new -/
def CQ (σ0 σ : xS) (o ci : Nat) (fs : List Value) (n : Nat) (tab : Nat → Nat × Nat) (sz : Nat) : Prop := σ.2 (o, 0) = some (.inr (ci, fs)) ∧ (∀ i, 1 ≤ i → i ≤ n → σ.2 (o, i) = some (.inl ((tab i).1, (tab i).2, fun _ => 0))) ∧ σ.1 = sz ∧ ∀ q : Nat × Nat, q.1 < o → σ.2 q = σ0.2 q
theorem CQ.start {σ0 : xS} {o ci sz : Nat} {fs : List Value} {tab : Nat → Nat × Nat} (h0 : σ0.2 (o, 0) = some (.inr (ci, fs))) (hsz : σ0.1 = sz) : CQ σ0 σ0 o ci fs 0 tab sz := ⟨h0, fun i h1 h2 => absurd h1 (by omega), hsz, fun _ _ => rfl⟩
theorem CQ.arr {σ0 σ : xS} {o ci n i t N sz sz2 : Nat} {fs : List Value} {tab : Nat → Nat × Nat} (h : CQ σ0 σ o ci fs n tab sz) (hi : i = n + 1) (ht : tab i = (t, N)) (hs : sz2 = sz + 1) : CQ σ0 (xpush σ (o, i) (.inl (t, N, fun _ => 0))) o ci fs i tab sz2 := by
  subst hi
  refine ⟨(xpush_n (fun q => by have := congrArg Prod.snd q; exact absurd this (Nat.succ_ne_zero n).symm)).trans h.1, fun j h1 h2 => ?_, ?_, fun q hq => (xpush_n (fun e => by rw [e] at hq; exact absurd hq (Nat.lt_irrefl o))).trans (h.2.2.2 q hq)⟩
  · by_cases e : j = n + 1
    · subst e; rw [ht]; exact xpush_s
    · exact (xpush_n (fun q => e (congrArg Prod.snd q))).trans (h.2.1 j h1 (by omega))
  · rw [xpush_1, h.2.2.1, hs]
theorem CQ.fld {σ0 σ : xS} {o ci n sz : Nat} {fs fs' : List Value} {tab : Nat → Nat × Nat} (h : CQ σ0 σ o ci fs n tab sz) : CQ σ0 (xset σ (o, 0) (.inr (ci, fs'))) o ci fs' n tab sz :=
  ⟨xset_s, fun j h1 h2 => (xset_n (fun q => by have := congrArg Prod.snd q; have : j = 0 := this; omega)).trans (h.2.1 j h1 h2), h.2.2.1, fun q hq => (xset_n (fun e => by rw [e] at hq; exact absurd hq (Nat.lt_irrefl o))).trans (h.2.2.2 q hq)⟩
theorem fr_nest {σ σ2 : xS} {o2 : Nat} {e : xE} (hfr : ∀ q : Nat × Nat, q.1 < o2 → σ2.2 q = (xpush σ (o2, 0) e).2 q) {k : Nat} (hk : k < o2) (i : Nat) : σ2.2 (k, i) = σ.2 (k, i) := (hfr (k, i) hk).trans (xpush_n (fun q => absurd (congrArg Prod.fst q) (Nat.ne_of_lt hk)))
theorem CQ.nest {σ0 σ σ2 : xS} {o ci n sz o2 sz2 : Nat} {fs : List Value} {tab : Nat → Nat × Nat} {e : xE} (h : CQ σ0 σ o ci fs n tab sz) (hlt : o < o2) (hfr : ∀ q : Nat × Nat, q.1 < o2 → σ2.2 q = (xpush σ (o2, 0) e).2 q) (hs2 : σ2.1 = sz2) : CQ σ0 σ2 o ci fs n tab sz2 :=
  ⟨(fr_nest hfr hlt 0).trans h.1, fun j h1 h2 => (fr_nest hfr hlt j).trans (h.2.1 j h1 h2), hs2, fun q hq => (fr_nest hfr (show q.1 < o2 by omega) q.2).trans (h.2.2.2 q hq)⟩
def Z0 : Nat → Int32 := fun _ => 0
def Z1 : Nat → Nat → Int32 := fun _ _ => 0
def F4i : Nat → Int32 := fun k => match k with
  | 5 => 1
  | 6 => 5
  | _ => 0
def F3i (n : Int32) : Nat → Int32 := fun k => match k with
  | 1 => n
  | _ => 0
def t6 (x : Nat) : Nat → Nat := fun k => match k with
  | 0 => x + 1
  | 1 => x + 13
  | 2 => x + 25
  | 3 => x + 37
  | 4 => x + 46
  | 5 => x + 55
  | _ => x + 58

def DX0 : List Value := [.null, .int 0, .int 0, .int 0, .int 0]
theorem DX0_ok : ∀ j, j < 5 → defaultValue (tyX0 j) = vp_V DX0 j := by
  intro j hj
  match j, hj with
  | 0, _ => rfl
  | 1, _ => rfl
  | 2, _ => rfl
  | 3, _ => rfl
  | 4, _ => rfl
  | j + 5, hj => exact absurd hj (by omega)
def tabX0 : Nat → Nat × Nat := fun k => match k with

  | _ => (0, 20)
def DX1 : List Value := [.null, .null, .int 0, .int 0]
theorem DX1_ok : ∀ j, j < 4 → defaultValue (tyX1 j) = vp_V DX1 j := by
  intro j hj
  match j, hj with
  | 0, _ => rfl
  | 1, _ => rfl
  | 2, _ => rfl
  | 3, _ => rfl
  | j + 4, hj => exact absurd hj (by omega)
def tabX1 : Nat → Nat × Nat := fun k => match k with
  | 1 => (0, 4096)
  | _ => (0, 840)
def DX2 : List Value := [.null, .null, .null, .null, .null, .null, .null, .null, .int 0, .int 0, .int 0, .int 0]
theorem DX2_ok : ∀ j, j < 12 → defaultValue (tyX2 j) = vp_V DX2 j := by
  intro j hj
  match j, hj with
  | 0, _ => rfl
  | 1, _ => rfl
  | 2, _ => rfl
  | 3, _ => rfl
  | 4, _ => rfl
  | 5, _ => rfl
  | 6, _ => rfl
  | 7, _ => rfl
  | 8, _ => rfl
  | 9, _ => rfl
  | 10, _ => rfl
  | 11, _ => rfl
  | j + 12, hj => exact absurd hj (by omega)
def tabX2 : Nat → Nat × Nat := fun k => match k with
  | 1 => (0, 100)
  | 2 => (0, 6)
  | 3 => (0, 6)
  | 4 => (0, 6)
  | 5 => (0, 8)
  | 6 => (0, 8)
  | 7 => (0, 8)
  | _ => (0, 8)
def DX3 : List Value := [.null, .int 0, .null, .int 0, .int 0]
theorem DX3_ok : ∀ j, j < 5 → defaultValue (tyX3 j) = vp_V DX3 j := by
  intro j hj
  match j, hj with
  | 0, _ => rfl
  | 1, _ => rfl
  | 2, _ => rfl
  | 3, _ => rfl
  | 4, _ => rfl
  | j + 5, hj => exact absurd hj (by omega)
def tabX3 : Nat → Nat × Nat := fun _ => (0, 0)
def DX4 : List Value := [.null, .null, .null, .int 0, .int 0, .int 0, .int 0]
theorem DX4_ok : ∀ j, j < 7 → defaultValue (tyX4 j) = vp_V DX4 j := by
  intro j hj
  match j, hj with
  | 0, _ => rfl
  | 1, _ => rfl
  | 2, _ => rfl
  | 3, _ => rfl
  | 4, _ => rfl
  | 5, _ => rfl
  | 6, _ => rfl
  | j + 7, hj => exact absurd hj (by omega)
def tabX4 : Nat → Nat × Nat := fun k => match k with
  | 1 => (0, 100)
  | 2 => (0, 10)
  | _ => (0, 10)
def DX5 : List Value := [.null, .null, .null, .null, .null, .null, .null, .int 0, .int 0, .int 0, .int 0, .int 0, .null]
theorem DX5_ok : ∀ j, j < 13 → defaultValue (tyX5 j) = vp_V DX5 j := by
  intro j hj
  match j, hj with
  | 0, _ => rfl
  | 1, _ => rfl
  | 2, _ => rfl
  | 3, _ => rfl
  | 4, _ => rfl
  | 5, _ => rfl
  | 6, _ => rfl
  | 7, _ => rfl
  | 8, _ => rfl
  | 9, _ => rfl
  | 10, _ => rfl
  | 11, _ => rfl
  | 12, _ => rfl
  | j + 13, hj => exact absurd hj (by omega)
def tabX5 : Nat → Nat × Nat := fun k => match k with
  | 1 => (0, 7)
  | 2 => (0, 4)
  | 3 => (0, 4)
  | 4 => (0, 4)
  | 5 => (0, 16)
  | 6 => (0, 280)
  | _ => (0, 6)
def DX6 : List Value := [.null, .null, .null, .null, .null, .null, .null, .int 0]
theorem DX6_ok : ∀ j, j < 8 → defaultValue (tyX6 j) = vp_V DX6 j := by
  intro j hj
  match j, hj with
  | 0, _ => rfl
  | 1, _ => rfl
  | 2, _ => rfl
  | 3, _ => rfl
  | 4, _ => rfl
  | 5, _ => rfl
  | 6, _ => rfl
  | 7, _ => rfl
  | j + 8, hj => exact absurd hj (by omega)
def tabX6 : Nat → Nat × Nat := fun _ => (0, 0)
def DX7 : List Value := [.int 0, .null, .null, .null, .int 0, .int 0, .int 0, .int 0, .int 0, .int 0, .null, .null, .null, .null, .null, .int 0, .int 0, .int 0, .null, .null, .null, .int 0, .int 0, .int 0, .int 0]
theorem DX7_ok : ∀ j, j < 25 → defaultValue (tyX7 j) = vp_V DX7 j := by
  intro j hj
  match j, hj with
  | 0, _ => rfl
  | 1, _ => rfl
  | 2, _ => rfl
  | 3, _ => rfl
  | 4, _ => rfl
  | 5, _ => rfl
  | 6, _ => rfl
  | 7, _ => rfl
  | 8, _ => rfl
  | 9, _ => rfl
  | 10, _ => rfl
  | 11, _ => rfl
  | 12, _ => rfl
  | 13, _ => rfl
  | 14, _ => rfl
  | 15, _ => rfl
  | 16, _ => rfl
  | 17, _ => rfl
  | 18, _ => rfl
  | 19, _ => rfl
  | 20, _ => rfl
  | 21, _ => rfl
  | 22, _ => rfl
  | 23, _ => rfl
  | 24, _ => rfl
  | j + 25, hj => exact absurd hj (by omega)
def tabX7 : Nat → Nat × Nat := fun k => match k with
  | 1 => (0, 909)
  | 2 => (0, 909)
  | 3 => (0, 12)
  | 4 => (0, 6)
  | 5 => (1, 64)
  | 6 => (0, 28)
  | 7 => (0, 4096)
  | 8 => (0, 4096)
  | 9 => (0, 4)
  | 10 => (0, 4)
  | _ => (0, 20)
