/-! for the calls that change something -/
theorem e_refv {G : xG} {μ : xM} {nL k n pc : Nat} {L : List (Nat × Value)} {S : List Value} {σ : xS} {a b : Nat} (h : a = b) (K : Ev G μ nL k n pc L (.ref b :: S) σ) : Ev G μ nL k n pc L (.ref a :: S) σ := h ▸ K
theorem in_1 {w : Int32} (h : inF w 1 99 = true) : ∃ k, 1 ≤ k ∧ k ≤ 99 ∧ w = nI k := by
  rw [inF_iff] at h
  have l1_ : (1 : Int32).toInt = 1 := by decide
  have l99_ : (99 : Int32).toInt = 99 := by decide
  have l0_ : (0 : Int32).toInt = 0 := by decide
  obtain ⟨k, hk, rfl⟩ := nI_of (x := w) (by rw [Int32.lt_iff_toInt_lt]; omega)
  rw [nI_toInt hk] at h
  exact ⟨k, by omega, by omega, rfl⟩
theorem BI.px {σ : xS} {x m : Nat} {Y : Nat → Int32} {hi : Int32} (h : BI σ x m Y hi) : (∃ F T A, PX5 σ (x + 25) F T A) ∧ ∃ F T A, PX2 σ (x + 46) F T A := by
  rcases h with ⟨-, h1, h2⟩ | ⟨-, nr, nb, ns, np, nn, nt, na, dy, t, tw, ln, -, -, -, -, h5, F, T, A, h6, -⟩
  · exact ⟨h1, h2⟩
  · exact ⟨h5.px, F, T, A, h6⟩
theorem RPc.copy {F F1 : Nat → Int32} {A A1 : Nat → Nat → Int32} {X : Nat → Int32} {ns np nn nt : Nat} (h : RPc F A X ns np nn nt) (h1 : ns ≤ 6) (h2 : np ≤ 8) (h3 : nn ≤ 8) (h4 : nt ≤ 100) (f8 : F1 8 = F 8) (f9 : F1 9 = F 9) (f10 : F1 10 = F 10) (f11 : F1 11 = F 11) (g1 : ∀ j, j < 100 → A1 1 j = A 1 j) (g2 : ∀ j, j < 6 → A1 2 j = A 2 j) (g3 : ∀ j, j < 6 → A1 3 j = A 3 j) (g4 : ∀ j, j < 6 → A1 4 j = A 4 j) (g5 : ∀ j, j < 8 → A1 5 j = A 5 j) (g6 : ∀ j, j < 8 → A1 6 j = A 6 j) (g7 : ∀ j, j < 8 → A1 7 j = A 7 j) (g8 : ∀ j, j < 8 → A1 8 j = A 8 j) : RPc F1 A1 X ns np nn nt := by
  obtain ⟨e1, e2, e3, e4, e5, e6, e7, e8⟩ := h
  refine ⟨f8.trans e1, f9.trans e2, f10.trans e3, f11.trans e4, fun k hk => ?_, fun k hk => ?_, fun k hk => ?_, fun k hk => ?_⟩
  · rw [g1 k (by omega)]; exact e5 k hk
  · rw [g2 k (by omega), g3 k (by omega), g4 k (by omega)]; exact e6 k hk
  · rw [g5 k (by omega), g6 k (by omega)]; exact e7 k hk
  · rw [g7 k (by omega), g8 k (by omega)]; exact e8 k hk
theorem cp_id {X Y : Nat → Int32} (h : ∀ j, 909 ≤ j → X j = Y j) : cpF X Y 909 = X := by
  funext j
  rw [cpF]
  by_cases q : j < 909
  · rw [if_pos q]
  · rw [if_neg q]; exact (h j (by omega)).symm
theorem okJ.lend {X : Nat → Int32} {nr q p : Nat} (h : okJ X nr) (h4 : nr ≤ 4) (hq : q < nr) (ho : holdF X nr (nI p) = -1 ∨ holdF X nr (nI p) = nI q) : okJ (_root_.Jvm.Pilot.CThickerBookLaw_law_r5607_bc12b2.upd X (1 + q) (nI p)) nr := by
  refine okJ.upd h (fun r hr hne hv => ?_)
  rcases ho with ho | ho
  · exact absurd hv (on_ne ((holdF_on h4).mp ho) hr)
  · have hq2 : X (1 + q) = nI p := by
      rw [holdF] at ho
      cases hf : fst (fun r => X (1 + r) == nI p) nr with
      | none => rw [hf] at ho; exact absurd ho.symm (nI_nm1 (by omega))
      | some j =>
        rw [hf] at ho
        obtain ⟨j1, j2, -⟩ := fst_some.mp hf
        have hj : j = q := (nI_eq (by omega) (by omega)).mp ho
        rw [hj] at j2
        exact eq_of_beq j2
    by_cases hn : X (1 + r) = -1
    · rw [← hv]; exact hn
    · exact absurd (h r q hr hq (hv.trans hq2.symm) hn) hne
theorem hold_q {X : Nat → Int32} {nr q : Nat} {b : Int32} (h4 : nr ≤ 4) (hq : q < nr) : orN (holdF X nr b) = nI q ↔ holdF X nr b = nI q := by
  by_cases h : holdF X nr b = -1
  · rw [h, orN, if_pos rfl]
    exact ⟨fun e => absurd e.symm (nI_nm5 (by omega)), fun e => absurd e.symm (nI_nm1 (by omega))⟩
  · obtain ⟨j, hj, e⟩ := holdF_has h
    rw [e, orN_nI (by omega)]
theorem hold_5 {X : Nat → Int32} {nr : Nat} {b : Int32} (h4 : nr ≤ 4) : orN (holdF X nr b) = -5 ↔ holdF X nr b = -1 := by
  rw [hold5 h4, holdF_on h4]
theorem WL.stale {σ : xS} {w tw : Nat} {X : Nat → Int32} {nr nb : Nat} {t : xT} {dy : Nat} (h : WL σ w tw X nr nb t dy) : WX σ w tw X nr nb t 1024 := by
  obtain ⟨ln, h1, -⟩ := h
  exact h1.stale
theorem RWc.town {F : Nat → Int32} {A : Nat → Nat → Int32} {X X1 : Nat → Int32} {nr nb na : Nat} {t t2 : xT} (h : RWc F A X nr nb t 1024) (h4 : nr ≤ 4) (hb : nb ≤ 7) (e : ∀ j, j < 14 ∨ (20 ≤ j ∧ j < 44) → X1 j = X j) (e14 : X1 14 = nI (na + 1)) : RWc (upd F 11 (nI (na + 1))) A X1 nr nb t2 1024 := by
  obtain ⟨h1, h2, h3, h4, h5, h6, h7, h8, h9, h10, h11, h12⟩ := h
  refine ⟨fun b hb => ?_, fun q hq => ?_, fun q hq => ?_, fun q hq => ?_, fun q hq => ?_, (upd_n (by decide)).trans h6, (upd_n (by decide)).trans h7, ?_, ?_, Nat.le_refl _, Or.inr rfl, fun dg hdg hl => ?_⟩
  · rw [e _ (by omega)]; exact h1 b hb
  · rw [e _ (by omega)]; exact h2 q hq
  · rw [e _ (by omega)]; exact h3 q hq
  · rw [e _ (by omega)]; exact h4 q hq
  · rw [e _ (by omega)]; exact h5 q hq
  · rw [upd_n (by decide), e _ (by omega)]; exact h8
  · rw [upd_s, e14]
  · have h : ∀ d, d < 10 → (1024 : Nat).testBit d = false := by decide
    rw [h dg hdg] at hl
    exact absurd hl (by decide)
