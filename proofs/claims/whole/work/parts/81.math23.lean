/-! THE CLASS AS A WHOLE -/
/-- WX speaks of some places of the row alone -/
def inW (j : Nat) : Prop := j < 15 ∨ (19 ≤ j ∧ j < 44) ∨ 194 ≤ j
theorem Gd.cgW {X Y : Nat → Int32} {nr nb : Nat} (h : Gd X nr nb) (e : ∀ j, inW j → Y j = X j) : Gd Y nr nb := by
  obtain ⟨⟨h1, h2, h3, h4⟩, h5, h6, h7, h8, h9⟩ := h
  have r4 : nr ≤ 4 := h1
  have b7 : nb ≤ 7 := h2
  refine ⟨⟨h1, h2, ?_, ?_⟩, fun r hr => ?_, fun b hb => ?_, ?_, fun r hr => ?_, fun r hr => ?_⟩
  · rw [e 12 (Or.inl (by decide))]; exact h3
  · rw [e 13 (Or.inl (by decide))]; exact h4
  · rw [e (1 + r) (Or.inl (by omega))]; exact h5 r hr
  · rw [e (5 + b) (Or.inl (by omega))]; exact h6 b hb
  · rw [e 19 (Or.inr (Or.inl ⟨by decide, by decide⟩))]; exact h7
  · rw [e (20 + r) (Or.inr (Or.inl ⟨by omega, by omega⟩))]; exact h8 r hr
  · rw [e (24 + r) (Or.inr (Or.inl ⟨by omega, by omega⟩))]; exact h9 r hr
theorem RWc.cgW {F : Nat → Int32} {A : Nat → Nat → Int32} {X Y : Nat → Int32} {nr nb : Nat} {t : xT} {ln : Nat} (h : RWc F A X nr nb t ln) (r4 : nr ≤ 4) (b7 : nb ≤ 7) (e : ∀ j, inW j → Y j = X j) : RWc F A Y nr nb t ln := by
  obtain ⟨h1, h2, h3, h4, h5, h6, h7, h8, h9, h10, h11, h12⟩ := h
  refine ⟨fun b hb => ?_, fun q hq => ?_, fun q hq => ?_, fun q hq => ?_, fun q hq => ?_, h6, h7, ?_, ?_, h10, h11, fun dg hdg hl q hq b hb => ?_⟩
  · rw [e (5 + b) (Or.inl (by omega))]; exact h1 b hb
  · rw [e (20 + q) (Or.inr (Or.inl ⟨by omega, by omega⟩))]; exact h2 q hq
  · rw [e (24 + q) (Or.inr (Or.inl ⟨by omega, by omega⟩))]; exact h3 q hq
  · rw [e (1 + q) (Or.inl (by omega))]; exact h4 q hq
  · rw [e (28 + q) (Or.inr (Or.inl ⟨by omega, by omega⟩))]; exact h5 q hq
  · rw [e 0 (Or.inl (by decide))]; exact h8
  · rw [e 14 (Or.inl (by decide))]; exact h9
  · rw [h12 dg hdg hl q hq b hb]
    congr 1
    funext i
    match i with
    | 0 => rfl
    | 1 => exact (e (20 + q) (Or.inr (Or.inl ⟨by omega, by omega⟩))).symm
    | 2 => exact (e (24 + q) (Or.inr (Or.inl ⟨by omega, by omega⟩))).symm
    | 3 => rfl
    | 4 => show X (5 + b) / 10 = Y (5 + b) / 10; rw [e (5 + b) (Or.inl (by omega))]
    | i + 5 => rfl
theorem Hd.cgW {X Y : Nat → Int32} {t : xT} (h : Hd X t) (e : ∀ j, inW j → Y j = X j) : Hd Y t := h.congr (e 19 (Or.inr (Or.inl ⟨by decide, by decide⟩))) (fun j hj => e j (Or.inr (Or.inr hj)))
theorem WX.cgW {σ : xS} {w tw : Nat} {X Y : Nat → Int32} {nr nb : Nat} {t : xT} {ln : Nat} (h : WX σ w tw X nr nb t ln) (e : ∀ j, inW j → Y j = X j) : WX σ w tw Y nr nb t ln := by
  obtain ⟨F, T, A, ⟨h1, h2, h3, h4, h5, h6⟩, h7⟩ := h
  exact ⟨F, T, A, ⟨h1, h2.cgW h5.r4 h5.b7 e, h3, h4, h5.cgW e, h6.cgW e⟩, h7⟩
/-- the Papers beside the row -/
def RPc (F : Nat → Int32) (A : Nat → Nat → Int32) (X : Nat → Int32) (ns np nn nt : Nat) : Prop :=
  F 8 = nI nt ∧ F 9 = nI ns ∧ F 10 = nI np ∧ F 11 = nI nn ∧ (∀ k, k < nt → A 1 k = X (94 + k)) ∧ (∀ k, k < ns → A 2 k = X (44 + k) ∧ A 3 k = X (50 + k) ∧ A 4 k = X (56 + k)) ∧ (∀ k, k < np → A 5 k = X (62 + k) ∧ A 6 k = X (70 + k)) ∧ ∀ k, k < nn → A 7 k = X (78 + k) ∧ A 8 k = X (86 + k)
theorem RPc.cg {F : Nat → Int32} {A : Nat → Nat → Int32} {X Y : Nat → Int32} {ns np nn nt : Nat} (h : RPc F A X ns np nn nt) (hs : ns ≤ 6) (hp : np ≤ 8) (hn : nn ≤ 8) (e : ∀ j, 44 ≤ j → j < 194 → Y j = X j) (ht : nt ≤ 100) : RPc F A Y ns np nn nt := by
  obtain ⟨h1, h2, h3, h4, h5, h6, h7, h8⟩ := h
  refine ⟨h1, h2, h3, h4, fun k hk => ?_, fun k hk => ?_, fun k hk => ?_, fun k hk => ?_⟩
  · rw [e _ (by omega) (by omega)]; exact h5 k hk
  · rw [e _ (by omega) (by omega), e _ (by omega) (by omega), e _ (by omega) (by omega)]; exact h6 k hk
  · rw [e _ (by omega) (by omega), e _ (by omega) (by omega)]; exact h7 k hk
  · rw [e _ (by omega) (by omega), e _ (by omega) (by omega)]; exact h8 k hk
/-- where a TOWN may stand: below s, not at the reference's object, none of the class's own parts -/
def okTw (x m tw s : Nat) : Prop := tw < s ∧ tw ≠ m ∧ (x ≤ tw → tw < x + 60 → tw = x + 9 ∨ tw = x + 21 ∨ tw = x + 33)
/-- how much paste does: no more than two digits -/
def okPt (X : Nat → Int32) : Prop := ∃ n, 1 ≤ n ∧ n ≤ 99 ∧ pasteF X = nI n
/-- the image's parts -/
def BI (σ : xS) (x m : Nat) (Y : Nat → Int32) (hi : Int32) : Prop :=
  (hi = 0 ∧ (∃ F T A, PX5 σ (x + 25) F T A) ∧ ∃ F T A, PX2 σ (x + 46) F T A) ∨
  (hi = 1 ∧ ∃ nr nb ns np nn nt na dy t tw ln, OK Y nr nb t ns np nn nt na dy ∧ okW Y ∧ okPt Y ∧ okTw x m tw σ.1 ∧ WX σ (x + 25) tw Y nr nb t ln ∧ ∃ F T A, PX2 σ (x + 46) F T A ∧ RPc F A Y ns np nn nt)
/-- the class's object at x beside the reference's row -/
def BK (G : xG) (σ : xS) (x m : Nat) (X Y bd : Nat → Int32) (hi : Int32) (rr nr nb ns np nn nt : Nat) (t : xT) : Prop :=
  PSA G σ ∧ (gA G < x ∧ gO G < x) ∧ x + 60 ≤ m ∧ m < σ.1 ∧ (∃ F A, PX6 σ x F (t6 x) A ∧ F 7 = hi) ∧ (∃ tw, okTw x m tw σ.1 ∧ WX σ (x + 1) tw X nr nb t 1024) ∧ (∃ F T A, PX5 σ (x + 13) F T A) ∧
  (∃ F T A, PX2 σ (x + 37) F T A ∧ RPc F A X ns np nn nt) ∧ (∃ F T A, PX1 σ (x + 55) F T A) ∧ (∃ F T A, PX0 σ (x + 58) F T A ∧ F 1 = nI rr ∧ ∀ q, q < 20 → A 1 q = bd q) ∧ BI σ x m Y hi
/-- nothing old has changed but what belongs to the class -/
def OffB (x : Nat) (σ σ1 : xS) : Prop := σ.1 ≤ σ1.1 ∧ ∀ q : Nat × Nat, q.1 < σ.1 → ¬ (x ≤ q.1 ∧ q.1 < x + 60) → σ1.2 q = σ.2 q
theorem OffB.rf {x : Nat} {σ : xS} : OffB x σ σ := ⟨Nat.le_refl _, fun _ _ _ => rfl⟩
theorem OffB.of {x o : Nat} {σ σ1 : xS} (h : Off o σ σ1) (h1 : x ≤ o) (h2 : o < x + 60) : OffB x σ σ1 := ⟨Nat.le_of_eq h.1.symm, fun q _ hq => h.2 q (fun e => hq (by rw [e]; exact ⟨h1, h2⟩))⟩
theorem OffB.tr {x : Nat} {σ σ1 σ2 : xS} (h : OffB x σ σ1) (h2 : OffB x σ1 σ2) : OffB x σ σ2 := ⟨Nat.le_trans h.1 h2.1, fun q h3 h4 => (h2.2 q (Nat.lt_of_lt_of_le h3 h.1) h4).trans (h.2 q h3 h4)⟩
theorem Off.sz {o : Nat} {σ σ1 : xS} (h : Off o σ σ1) : σ1.1 = σ.1 := h.1
theorem Off.cl {o k : Nat} {σ σ1 : xS} (h : Off o σ σ1) (hne : k ≠ o) (i : Nat) : σ1.2 (k, i) = σ.2 (k, i) := h.2 (k, i) hne
theorem okTw.sz {x m tw s s1 : Nat} (h : okTw x m tw s) (hs : s ≤ s1) : okTw x m tw s1 := ⟨Nat.lt_of_lt_of_le h.1 hs, h.2⟩
theorem BI.cg {σ σ1 : xS} {x m : Nat} {Y : Nat → Int32} {hi : Int32} (h : BI σ x m Y hi) (hs : σ.1 ≤ σ1.1) (h25 : ∀ i, σ1.2 (x + 25, i) = σ.2 (x + 25, i)) (h46 : ∀ i, σ1.2 (x + 46, i) = σ.2 (x + 46, i)) (ht : ∀ tw, okTw x m tw σ.1 → ∀ i, σ1.2 (tw, i) = σ.2 (tw, i)) : BI σ1 x m Y hi := by
  rcases h with ⟨h1, ⟨F, T, A, h2⟩, F', T', A', h3⟩ | ⟨h1, nr, nb, ns, np, nn, nt, na, dy, t, tw, ln, h2, h3, h8, h4, h5, F, T, A, h6, h7⟩
  · exact Or.inl ⟨h1, ⟨F, T, A, h2.cg h25⟩, F', T', A', h3.cg h46⟩
  · exact Or.inr ⟨h1, nr, nb, ns, np, nn, nt, na, dy, t, tw, ln, h2, h3, h8, h4.sz hs, h5.cg h25 (ht tw h4), F, T, A, h6.cg h46, h7⟩
section BKS
variable {G : xG} {σ σ1 : xS} {x m : Nat} {X Y bd : Nat → Int32} {hi : Int32} {rr nr nb ns np nn nt : Nat} {t : xT}
theorem PSA.cgx (h : PSA G σ) (hx : gA G < x ∧ gO G < x) {o : Nat} (hxo : x ≤ o) (ho : Off o σ σ1) : PSA G σ1 := h.off ho (by omega) (by omega)
/-- the reference alone has changed -/
theorem BK.mod (h : BK G σ x m X Y bd hi rr nr nb ns np nn nt t) (ho : Off m σ σ1) : BK G σ1 x m X Y bd hi rr nr nb ns np nn nt t := by
  obtain ⟨hSA, hg, hxm, hms, ⟨Fx, Ax, hx, hF7⟩, ⟨tw, htw, hXn⟩, ⟨F5, T5, A5, hP5⟩, ⟨Fp, Tp, Ap, hPp, hRP⟩, ⟨Fg, Tg, Ag, hPg⟩, ⟨Fa, Ta, Aa, hPa, hFa⟩, hBI⟩ := h
  have c : ∀ k, k ≠ m → ∀ i, σ1.2 (k, i) = σ.2 (k, i) := fun k hk i => ho.cl hk i
  refine ⟨hSA.cgx hg (by omega) ho, hg, hxm, by rw [ho.1]; exact hms, ⟨Fx, Ax, hx.cg (c _ (by omega)), hF7⟩, ⟨tw, htw.sz (Nat.le_of_eq ho.1.symm), hXn.cg (c _ (by omega)) (c _ htw.2.1)⟩, ⟨F5, T5, A5, hP5.cg (c _ (by omega))⟩, ⟨Fp, Tp, Ap, hPp.cg (c _ (by omega)), hRP⟩, ⟨Fg, Tg, Ag, hPg.cg (c _ (by omega))⟩, ⟨Fa, Ta, Aa, hPa.cg (c _ (by omega)), hFa⟩, hBI.cg (Nat.le_of_eq ho.1.symm) (c _ (by omega)) (c _ (by omega)) (fun tw h => c _ h.2.1)⟩
/-- what is asked changes no more than what is tried out -/
theorem BK.asks (h : BK G σ x m X Y bd hi rr nr nb ns np nn nt t) (ho : OffS (fun o => o = x + 13 ∨ o = x + 55) σ σ1) (h5 : ∃ F T A, PX5 σ1 (x + 13) F T A) (hgo : ∃ F T A, PX1 σ1 (x + 55) F T A) : BK G σ1 x m X Y bd hi rr nr nb ns np nn nt t ∧ OffB x σ σ1 := by
  obtain ⟨hSA, hg, hxm, hms, ⟨Fx, Ax, hx, hF7⟩, ⟨tw, htw, hXn⟩, -, ⟨Fp, Tp, Ap, hPp, hRP⟩, -, ⟨Fa, Ta, Aa, hPa, hFa⟩, hBI⟩ := h
  have c : ∀ k, ¬ (k = x + 13 ∨ k = x + 55) → ∀ i, σ1.2 (k, i) = σ.2 (k, i) := fun k hk i => ho.cell hk i
  have ct : ∀ tw, okTw x m tw σ.1 → ∀ i, σ1.2 (tw, i) = σ.2 (tw, i) := fun tw h => c _ (by obtain ⟨-, -, h3⟩ := h; omega)
  refine ⟨⟨hSA.cg (c _ (by omega) _) (c _ (by omega) _), hg, hxm, by rw [ho.1]; exact hms, ⟨Fx, Ax, hx.cg (c _ (by omega)), hF7⟩, ⟨tw, htw.sz (Nat.le_of_eq ho.1.symm), hXn.cg (c _ (by omega)) (ct _ htw)⟩, h5, ⟨Fp, Tp, Ap, hPp.cg (c _ (by omega)), hRP⟩, hgo, ⟨Fa, Ta, Aa, hPa.cg (c _ (by omega)), hFa⟩, hBI.cg (Nat.le_of_eq ho.1.symm) (c _ (by omega)) (c _ (by omega)) ct⟩, Nat.le_of_eq ho.1.symm, fun q _ hq => ho.2 q (by omega)⟩
/-- the Papers alone have changed -/
theorem BK.paps {X' : Nat → Int32} {ns' np' nn' nt' : Nat} (h : BK G σ x m X Y bd hi rr nr nb ns np nn nt t) (ho : Off (x + 37) σ σ1) (hp : ∃ F T A, PX2 σ1 (x + 37) F T A ∧ RPc F A X' ns' np' nn' nt') (hX : ∀ j, inW j → X' j = X j) : BK G σ1 x m X' Y bd hi rr nr nb ns' np' nn' nt' t ∧ OffB x σ σ1 := by
  obtain ⟨hSA, hg, hxm, hms, ⟨Fx, Ax, hx, hF7⟩, ⟨tw, htw, hXn⟩, ⟨F5, T5, A5, hP5⟩, -, ⟨Fg, Tg, Ag, hPg⟩, ⟨Fa, Ta, Aa, hPa, hFa⟩, hBI⟩ := h
  have c : ∀ k, k ≠ x + 37 → ∀ i, σ1.2 (k, i) = σ.2 (k, i) := fun k hk i => ho.cl hk i
  have ct : ∀ tw, okTw x m tw σ.1 → ∀ i, σ1.2 (tw, i) = σ.2 (tw, i) := fun tw h => c _ (by obtain ⟨-, -, h3⟩ := h; omega)
  exact ⟨⟨hSA.cgx hg (by omega) ho, hg, hxm, by rw [ho.1]; exact hms, ⟨Fx, Ax, hx.cg (c _ (by omega)), hF7⟩, ⟨tw, htw.sz (Nat.le_of_eq ho.1.symm), (hXn.cg (c _ (by omega)) (ct _ htw)).cgW hX⟩, ⟨F5, T5, A5, hP5.cg (c _ (by omega))⟩, hp, ⟨Fg, Tg, Ag, hPg.cg (c _ (by omega))⟩, ⟨Fa, Ta, Aa, hPa.cg (c _ (by omega)), hFa⟩, hBI.cg (Nat.le_of_eq ho.1.symm) (c _ (by omega)) (c _ (by omega)) ct⟩, OffB.of ho (by omega) (by omega)⟩
/-- the World that is now alone has changed -/
theorem BK.world {X' : Nat → Int32} {nr' nb' : Nat} (h : BK G σ x m X Y bd hi rr nr nb ns np nn nt t) (hs : ns ≤ 6) (hp : np ≤ 8) (hn : nn ≤ 8) (ht : nt ≤ 100) (ho : Off (x + 1) σ σ1) (hw : ∃ tw, okTw x m tw σ1.1 ∧ WX σ1 (x + 1) tw X' nr' nb' t 1024) (hX : ∀ j, 44 ≤ j → j < 194 → X' j = X j) : BK G σ1 x m X' Y bd hi rr nr' nb' ns np nn nt t ∧ OffB x σ σ1 := by
  obtain ⟨hSA, hg, hxm, hms, ⟨Fx, Ax, hx, hF7⟩, -, ⟨F5, T5, A5, hP5⟩, ⟨Fp, Tp, Ap, hPp, hRP⟩, ⟨Fg, Tg, Ag, hPg⟩, ⟨Fa, Ta, Aa, hPa, hFa⟩, hBI⟩ := h
  have c : ∀ k, k ≠ x + 1 → ∀ i, σ1.2 (k, i) = σ.2 (k, i) := fun k hk i => ho.cl hk i
  have ct : ∀ tw, okTw x m tw σ.1 → ∀ i, σ1.2 (tw, i) = σ.2 (tw, i) := fun tw h => c _ (by obtain ⟨-, -, h3⟩ := h; omega)
  exact ⟨⟨hSA.cgx hg (by omega) ho, hg, hxm, by rw [ho.1]; exact hms, ⟨Fx, Ax, hx.cg (c _ (by omega)), hF7⟩, hw, ⟨F5, T5, A5, hP5.cg (c _ (by omega))⟩, ⟨Fp, Tp, Ap, hPp.cg (c _ (by omega)), hRP.cg hs hp hn hX ht⟩, ⟨Fg, Tg, Ag, hPg.cg (c _ (by omega))⟩, ⟨Fa, Ta, Aa, hPa.cg (c _ (by omega)), hFa⟩, hBI.cg (Nat.le_of_eq ho.1.symm) (c _ (by omega)) (c _ (by omega)) ct⟩, OffB.of ho (by omega) (by omega)⟩
/-- the Acts alone have changed -/
theorem BK.actsc {bd' : Nat → Int32} {rr' : Nat} (h : BK G σ x m X Y bd hi rr nr nb ns np nn nt t) (ho : Off (x + 58) σ σ1) (ha : ∃ F T A, PX0 σ1 (x + 58) F T A ∧ F 1 = nI rr' ∧ ∀ q, q < 20 → A 1 q = bd' q) : BK G σ1 x m X Y bd' hi rr' nr nb ns np nn nt t ∧ OffB x σ σ1 := by
  obtain ⟨hSA, hg, hxm, hms, ⟨Fx, Ax, hx, hF7⟩, ⟨tw, htw, hXn⟩, ⟨F5, T5, A5, hP5⟩, ⟨Fp, Tp, Ap, hPp, hRP⟩, ⟨Fg, Tg, Ag, hPg⟩, -, hBI⟩ := h
  have c : ∀ k, k ≠ x + 58 → ∀ i, σ1.2 (k, i) = σ.2 (k, i) := fun k hk i => ho.cl hk i
  have ct : ∀ tw, okTw x m tw σ.1 → ∀ i, σ1.2 (tw, i) = σ.2 (tw, i) := fun tw h => c _ (by obtain ⟨-, -, h3⟩ := h; omega)
  exact ⟨⟨hSA.cgx hg (by omega) ho, hg, hxm, by rw [ho.1]; exact hms, ⟨Fx, Ax, hx.cg (c _ (by omega)), hF7⟩, ⟨tw, htw.sz (Nat.le_of_eq ho.1.symm), hXn.cg (c _ (by omega)) (ct _ htw)⟩, ⟨F5, T5, A5, hP5.cg (c _ (by omega))⟩, ⟨Fp, Tp, Ap, hPp.cg (c _ (by omega)), hRP⟩, ⟨Fg, Tg, Ag, hPg.cg (c _ (by omega))⟩, ha, hBI.cg (Nat.le_of_eq ho.1.symm) (c _ (by omega)) (c _ (by omega)) ct⟩, OffB.of ho (by omega) (by omega)⟩
end BKS
theorem MK.cg {σ σ1 : xS} {m : Nat} {X Y bd : Nat → Int32} {hi rn : Int32} (h : MK σ m X Y bd hi rn) (e : ∀ i, σ1.2 (m, i) = σ.2 (m, i)) : MK σ1 m X Y bd hi rn := by
  obtain ⟨F, T, A, h1, h2⟩ := h
  exact ⟨F, T, A, h1.cg e, h2⟩
/-- learned for the DAY dy, and for the digit e0 -/
def WLk (σ : xS) (w tw : Nat) (X : Nat → Int32) (nr nb : Nat) (t : xT) (dy e0 : Nat) : Prop := ∃ ln, WX σ w tw X nr nb t ln ∧ dy ≤ 20000 ∧ X 0 = nI dy ∧ ln.testBit (dy % 10) = true ∧ ln.testBit e0 = true
theorem WLk.wl {σ : xS} {w tw : Nat} {X : Nat → Int32} {nr nb : Nat} {t : xT} {dy e0 : Nat} (h : WLk σ w tw X nr nb t dy e0) : WL σ w tw X nr nb t dy := by
  obtain ⟨ln, h1, h2, h3, h4, -⟩ := h
  exact ⟨ln, h1, h2, h3, h4⟩
theorem WL.k {σ : xS} {w tw : Nat} {X : Nat → Int32} {nr nb : Nat} {t : xT} {dy : Nat} (h : WL σ w tw X nr nb t dy) : WLk σ w tw X nr nb t dy (dy % 10) := by
  obtain ⟨ln, h1, h2, h3, h4⟩ := h
  exact ⟨ln, h1, h2, h3, h4, h4⟩
theorem WX.px {σ : xS} {w tw : Nat} {X : Nat → Int32} {nr nb : Nat} {t : xT} {ln : Nat} (h : WX σ w tw X nr nb t ln) : ∃ F T A, PX5 σ w F T A := by
  obtain ⟨F, T, A, h1, -⟩ := h
  exact ⟨F, T, A, h1.1⟩
theorem WL.px {σ : xS} {w tw : Nat} {X : Nat → Int32} {nr nb : Nat} {t : xT} {dy : Nat} (h : WL σ w tw X nr nb t dy) : ∃ F T A, PX5 σ w F T A := by
  obtain ⟨ln, h1, -⟩ := h
  exact h1.px
theorem WX.gd {σ : xS} {w tw : Nat} {X : Nat → Int32} {nr nb : Nat} {t : xT} {ln : Nat} (h : WX σ w tw X nr nb t ln) : Gd X nr nb ∧ Hd X t := by
  obtain ⟨F, T, A, h1, -⟩ := h
  exact h1.2.2.2.2
/-- numbers told by an order, two bits each -/
def odg (c nr k : Nat) : Nat := c / 2 ^ (2 * (nr - 1 - k)) % 4
def odL (c nr : Nat) : List Nat := (List.range nr).map (odg c nr)
def isOd (c nr : Nat) : Bool := (List.range nr).foldl (fun a k => a ||| 2 ^ odg c nr k) 0 == 2 ^ nr - 1
theorem ods : ∀ nr, nr ≤ 4 → ((List.range (4 ^ nr)).filter (fun c => isOd c nr)).map (fun c => odL c nr) = lvO nr nr 0 := by decide +kernel
