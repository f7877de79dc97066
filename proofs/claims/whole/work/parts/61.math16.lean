/-! HOW MANY WAYS there can be: who HAS none keeps none, no BOOK is had twice -/
def vmB (k r : Nat) : Bool := k / 2 ^ r % 2 == 1
def vmk (k c : Nat) : Bool :=
  ((dgW c 0 == 7) == vmB k 0) && ((dgW c 1 == 7) == vmB k 1) && ((dgW c 2 == 7) == vmB k 2) && ((dgW c 3 == 7) == vmB k 3) &&
  (dgW c 0 == 7 || dgW c 0 != dgW c 1) && (dgW c 0 == 7 || dgW c 0 != dgW c 2) && (dgW c 0 == 7 || dgW c 0 != dgW c 3) && (dgW c 1 == 7 || dgW c 1 != dgW c 2) && (dgW c 1 == 7 || dgW c 1 != dgW c 3) && (dgW c 2 == 7 || dgW c 2 != dgW c 3)
theorem vm_cnt : ∀ k, k < 16 → ((List.range 4096).filter (vmk k)).length ≤ 840 := by decide +kernel
/-- the same of the row -/
def VMr (k : Nat) (X : Nat → Int32) (nr : Nat) : Prop := (∀ r, r < 4 → (dgX X nr r = 7 ↔ vmB k r = true)) ∧ ∀ r s, r < 4 → s < 4 → r ≠ s → dgX X nr r = 7 ∨ dgX X nr r ≠ dgX X nr s
theorem vm_of {X : Nat → Int32} {nr nb k : Nat} (hG : Gd X nr nb) (h : VMr k X nr) : vmk k (wayX X nr) = true := by
  have e : ∀ r, r < 4 → ((dgW (wayX X nr) r == 7) == vmB k r) = true := by
    intro r hr
    rw [way_dg hG hr]
    have := h.1 r hr
    cases q : vmB k r
    · rw [q] at this
      simp only [Bool.false_eq_true, iff_false] at this
      simp [this]
    · rw [q] at this
      simp only [iff_true] at this
      simp [this]
  have d : ∀ r s, r < 4 → s < 4 → r ≠ s → (dgW (wayX X nr) r == 7 || dgW (wayX X nr) r != dgW (wayX X nr) s) = true := by
    intro r s hr hs hrs
    rw [way_dg hG hr, way_dg hG hs]
    rcases h.2 r s hr hs hrs with q | q
    · simp [q]
    · simp [q]
  rw [vmk, e 0 (by decide), e 1 (by decide), e 2 (by decide), e 3 (by decide), d 0 1 (by decide) (by decide) (by decide), d 0 2 (by decide) (by decide) (by decide), d 0 3 (by decide) (by decide) (by decide), d 1 2 (by decide) (by decide) (by decide), d 1 3 (by decide) (by decide) (by decide), d 2 3 (by decide) (by decide) (by decide)]
  rfl
/-- the mask of a row -/
def mskX (X : Nat → Int32) (nr : Nat) : Nat := (if dgX X nr 0 = 7 then 1 else 0) + (if dgX X nr 1 = 7 then 2 else 0) + (if dgX X nr 2 = 7 then 4 else 0) + (if dgX X nr 3 = 7 then 8 else 0)
theorem msk_lt {X : Nat → Int32} {nr : Nat} : mskX X nr < 16 := by
  rw [mskX]
  split <;> split <;> split <;> split <;> decide
theorem msk_bit {X : Nat → Int32} {nr r : Nat} (hr : r < 4) : dgX X nr r = 7 ↔ vmB (mskX X nr) r = true := by
  rw [mskX]
  rcases (show r = 0 ∨ r = 1 ∨ r = 2 ∨ r = 3 by omega) with rfl | rfl | rfl | rfl <;> split <;> split <;> split <;> split <;> simp_all [vmB]
theorem VM_0 {X : Nat → Int32} {nr nb : Nat} (hG : Gd X nr nb) (hJ : okJ X nr) : VMr (mskX X nr) X nr := by
  refine ⟨fun r hr => msk_bit hr, fun r s hr hs hrs => ?_⟩
  rcases dgX_le (r := r) hG with h | h
  · exact Or.inl h.1
  · refine Or.inr (fun e => ?_)
    have hb7 := hG.b7
    rcases dgX_le (r := s) hG with h2 | h2
    · omega
    · have e2 : X (1 + r) = X (1 + s) := by rw [h.2.2, h2.2.2, e]
      exact hrs (hJ r s h.1 h2.1 e2 (by rw [h.2.2]; exact nI_nneg (by omega) (by decide)))
theorem dgX_upd {X : Nat → Int32} {nr r b s : Nat} (hr : r < nr) (hb : b < 7) : dgX (upd X (1 + r) (nI b)) nr s = if s = r then b else dgX X nr s := by
  by_cases e : s = r
  · subst e
    rw [if_pos rfl, dgX, upd_s, if_pos ⟨hr, nI_nneg (by omega) (by decide)⟩, nI_clamp (by omega)]
  · rw [if_neg e, dgX, dgX, upd_n (by omega)]
theorem dgX_swp {X : Nat → Int32} {nr a b s : Nat} (ha : a < nr) (hb : b < nr) (hab : a < b) : dgX (swpF X a b) nr s = if s = a then dgX X nr b else if s = b then dgX X nr a else dgX X nr s := by
  by_cases e : s = a
  · subst e
    rw [if_pos rfl, dgX, dgX, swpF, upd_n (by omega), upd_s]
    simp only [ha, hb, true_and]
  · rw [if_neg e]
    by_cases e2 : s = b
    · subst e2
      rw [if_pos rfl, dgX, dgX, swpF, upd_s]
      simp only [ha, hb, true_and]
    · rw [if_neg e2, dgX, dgX, swpF, upd_n (by omega), upd_n (by omega)]
theorem onF_dg {X : Nat → Int32} {nr nb b s : Nat} (hG : Gd X nr nb) (hb : b < 7) (h : onF X nr (nI b) = true) : dgX X nr s ≠ b := by
  intro e
  rcases dgX_le (r := s) hG with q | q
  · omega
  · rw [onF, Option.isNone_iff_eq_none] at h
    have := fst_none.mp h s q.1
    rw [q.2.2, e] at this
    simp at this
theorem VM_NB {X Y : Nat → Int32} {t : xT} {nr nb k : Nat} (hG : Gd X nr nb) (hV : VMr k X nr) (h : NBq X t nr nb Y) : VMr k Y nr := by
  have hb7 := hG.b7
  have hr4 := hG.r4
  rcases h with ⟨r, b, hr, hb, hm, rfl⟩ | ⟨a, b, ha, hb, hc, rfl⟩
  · rw [mayF, Bool.and_eq_true, Bool.and_eq_true] at hm
    have hon := hm.1
    have hr7 : dgX X nr r ≠ 7 := by
      intro e
      rcases dgX_le (r := r) hG with q | q
      · have h1 := hm.2.1
        rw [thickerF, if_pos (q.2 hr)] at h1
        exact absurd h1 (by decide)
      · omega
    refine ⟨fun s hs => ?_, fun s u hs hu hsu => ?_⟩
    · rw [dgX_upd hr (by omega)]
      by_cases e : s = r
      · subst e
        rw [if_pos rfl]
        have := hV.1 s hs
        constructor
        · intro q; omega
        · intro q; exact absurd (this.mpr q) hr7
      · rw [if_neg e]; exact hV.1 s hs
    · rw [dgX_upd hr (by omega), dgX_upd hr (by omega)]
      by_cases e : s = r
      · subst e
        rw [if_pos rfl, if_neg (Ne.symm hsu)]
        exact Or.inr (Ne.symm (onF_dg hG (by omega) hon))
      · rw [if_neg e]
        by_cases e2 : u = r
        · rw [if_pos e2]; exact Or.inr (onF_dg hG (by omega) hon)
        · rw [if_neg e2]; exact hV.2 s u hs hu hsu
  · have hbn : a < nr := by omega
    rw [chF, Bool.and_eq_true, Bool.and_eq_true] at hc
    have ha7 : dgX X nr a ≠ 7 := by
      intro e
      rcases dgX_le (r := a) hG with q | q
      · exact absurd (q.2 hbn) (by simpa using hc.1)
      · omega
    have hb7' : dgX X nr b ≠ 7 := by
      intro e
      rcases dgX_le (r := b) hG with q | q
      · exact absurd (q.2 hb) (by simpa using hc.2.1)
      · omega
    refine ⟨fun s hs => ?_, fun s u hs hu hsu => ?_⟩
    · rw [dgX_swp hbn hb ha]
      by_cases e : s = a
      · subst e
        rw [if_pos rfl]
        have := hV.1 s hs
        exact ⟨fun q => absurd q hb7', fun q => absurd (this.mpr q) ha7⟩
      · rw [if_neg e]
        by_cases e2 : s = b
        · subst e2
          rw [if_pos rfl]
          have := hV.1 s hs
          exact ⟨fun q => absurd q ha7, fun q => absurd (this.mpr q) hb7'⟩
        · rw [if_neg e2]; exact hV.1 s hs
    · rw [dgX_swp hbn hb ha, dgX_swp hbn hb ha]
      have h4a : a < 4 := by omega
      have h4b : b < 4 := by omega
      by_cases e : s = a
      · subst e
        rw [if_pos rfl, if_neg (Ne.symm hsu)]
        by_cases e2 : u = b
        · rw [if_pos e2]; exact hV.2 b s h4b hs (by omega)
        · rw [if_neg e2]; exact hV.2 b u h4b hu (by omega)
      · rw [if_neg e]
        by_cases e2 : s = b
        · subst e2
          rw [if_pos rfl]
          by_cases e3 : u = a
          · rw [if_pos e3]; exact hV.2 a s h4a hs (by omega)
          · rw [if_neg e3, if_neg (Ne.symm hsu)]; exact hV.2 a u h4a hu (by omega)
        · rw [if_neg e2]
          by_cases e3 : u = a
          · rw [if_pos e3]; exact hV.2 s b hs h4b e2
          · rw [if_neg e3]
            by_cases e4 : u = b
            · rw [if_pos e4]; exact hV.2 s a hs h4a e
            · rw [if_neg e4]; exact hV.2 s u hs hu hsu
/-- so no more than 840 -/
def VMq (k : Nat) (ql : wQ) : Prop := ∀ q ∈ ql, vmk k q.1 = true
theorem VM_lt {nr nb k c : Nat} {ql : wQ} (hk : k < 16) (h : okQ nr nb ql) (hv : VMq k ql) (hc : okV nr nb c) (hcv : vmk k c = true) (hn : ¬ ql.any (fun q => q.1 == c) = true) : ql.length < 840 := by
  rw [any_iff] at hn
  have hd : (c :: ql.map (·.1)).Nodup := List.nodup_cons.mpr ⟨hn, h.1⟩
  have := nodup_le (l2 := (List.range 4096).filter (vmk k)) hd (by
    intro a ha
    rw [List.mem_filter, List.mem_range]
    rcases List.mem_cons.mp ha with rfl | ha
    · exact ⟨hc.1, hcv⟩
    · obtain ⟨q, hq, rfl⟩ := List.mem_map.mp ha
      exact ⟨(h.2.1 q hq).1, hv q hq⟩)
  have h2 := vm_cnt k hk
  rw [List.length_cons, List.length_map] at this
  omega
theorem VM_le {nr nb k : Nat} {ql : wQ} (hk : k < 16) (h : okQ nr nb ql) (hv : VMq k ql) : ql.length ≤ 840 := by
  have := nodup_le (l2 := (List.range 4096).filter (vmk k)) h.1 (by
    intro a ha
    rw [List.mem_filter, List.mem_range]
    obtain ⟨q, hq, rfl⟩ := List.mem_map.mp ha
    exact ⟨(h.2.1 q hq).1, hv q hq⟩)
  have h2 := vm_cnt k hk
  rw [List.length_map] at this
  omega
theorem VM_meet {k n c : Nat} {ql : wQ} (hv : VMq k ql) (hcv : vmk k c = true) : VMq k (meetL n ql c) := by
  by_cases h : ql.any (fun q => q.1 == c) = true
  · rw [meet_y h]; exact hv
  · rw [meet_n h]
    intro q hq
    rcases List.mem_append.mp hq with hq | hq
    · exact hv q hq
    · rw [List.mem_singleton.mp hq]; exact hcv
/-- the class's two rows hold ql -/
def RG (Fo Fe : Nat → Int32) (nr nb : Nat) (ql : wQ) : Prop := (∀ i, i < ql.length → Fo i = nI (cdW nr (gQ ql i).1)) ∧ ∀ v, okV nr nb v → Fe (cdW nr v) = orN (lkQ ql v)
theorem cd_inj {nr nb v w : Nat} (hn : nr ≤ 4) (hv : okV nr nb v) (hw : okV nr nb w) (e : cdW nr v = cdW nr w) : v = w := by
  refine dgW_ext hv.1 hw.1 (fun r hr => ?_)
  by_cases h : r < nr
  · rw [← cd_dg h hn, ← cd_dg h hn, e]
  · have h1 := (hv.2 r hr).resolve_right (fun q => h q.1)
    have h2 := (hw.2 r hr).resolve_right (fun q => h q.1)
    rw [h1, h2]
theorem RG_new {Fo Fe : Nat → Int32} {nr nb c n : Nat} {ql : wQ} (hn : nr ≤ 4) (h : RG Fo Fe nr nb ql) (hc : okV nr nb c) (hnew : ¬ ql.any (fun q => q.1 == c) = true) (hn5 : n < 5000) : RG (upd Fo ql.length (nI (cdW nr c))) (upd Fe (cdW nr c) (nI n)) nr nb (ql ++ [(c, n)]) := by
  constructor
  · intro i hi
    rw [List.length_append, List.length_singleton] at hi
    by_cases e : i = ql.length
    · subst e; rw [upd_s, gQ_new]
    · rw [upd_n e, gQ_app (by omega)]; exact h.1 i (by omega)
  · intro d hd
    rw [lkQ_app hnew]
    by_cases e : d = c
    · subst e; rw [if_pos rfl, upd_s, orN_nI (by omega)]
    · rw [if_neg e, upd_n (fun q => e (cd_inj hn hd hc q))]; exact h.2 d hd
theorem lk_m5 {nr nb c : Nat} {ql : wQ} (h : okQ nr nb ql) : orN (lkQ ql c) = -5 ↔ ¬ ql.any (fun q => q.1 == c) = true := by
  rw [← lkQ_none h]
  constructor
  · intro e
    rw [orN] at e
    by_cases q : lkQ ql c = -1
    · exact q
    · rw [if_neg q] at e
      rw [lkQ] at e
      cases hf : ql.find? (fun p => p.1 == c) with
      | none => rw [lkQ, hf]
      | some p =>
        rw [hf] at e
        have := okQ_d h (List.mem_of_find?_eq_some hf)
        exact absurd e (nI_nneg (by omega) (by decide))
  · intro e; rw [e]; rfl
/-- nothing has changed but objects of S -/
def OffS (S : Nat → Prop) (σ σ1 : xS) : Prop := σ1.1 = σ.1 ∧ ∀ q : Nat × Nat, ¬ S q.1 → σ1.2 q = σ.2 q
theorem OffS.rf {S : Nat → Prop} {σ : xS} : OffS S σ σ := ⟨rfl, fun _ _ => rfl⟩
theorem OffS.tr {S : Nat → Prop} {σ σ1 σ2 : xS} (h : OffS S σ σ1) (h2 : OffS S σ1 σ2) : OffS S σ σ2 := ⟨h2.1.trans h.1, fun q hq => (h2.2 q hq).trans (h.2 q hq)⟩
theorem OffS.of {S : Nat → Prop} {o : Nat} {σ σ1 : xS} (h : Off o σ σ1) (ho : S o) : OffS S σ σ1 := ⟨h.1, fun q hq => h.2 q (fun e => hq (by rw [e]; exact ho))⟩
theorem OffS.up {S S2 : Nat → Prop} {σ σ1 : xS} (h : OffS S σ σ1) (hS : ∀ o, S o → S2 o) : OffS S2 σ σ1 := ⟨h.1, fun q hq => h.2 q (fun e => hq (hS _ e))⟩
theorem OffS.cell {S : Nat → Prop} {σ σ1 : xS} (h : OffS S σ σ1) {o : Nat} (ho : ¬ S o) (i : Nat) : σ1.2 (o, i) = σ.2 (o, i) := h.2 (o, i) ho
theorem PX1.cg {σ σ1 : xS} {o : Nat} {F : Nat → Int32} {T : Nat → Nat} {A : Nat → Nat → Int32} (h : PX1 σ o F T A) (e : ∀ i, σ1.2 (o, i) = σ.2 (o, i)) : PX1 σ1 o F T A := by
  unfold PX1 at h ⊢
  simp only [e]
  exact h
theorem PX5.cg {σ σ1 : xS} {o : Nat} {F : Nat → Int32} {T : Nat → Nat} {A : Nat → Nat → Int32} (h : PX5 σ o F T A) (e : ∀ i, σ1.2 (o, i) = σ.2 (o, i)) : PX5 σ1 o F T A := by
  unfold PX5 at h ⊢
  simp only [e]
  exact h
theorem PX4.cg {σ σ1 : xS} {o : Nat} {F : Nat → Int32} {T : Nat → Nat} {A : Nat → Nat → Int32} (h : PX4 σ o F T A) (e : ∀ i, σ1.2 (o, i) = σ.2 (o, i)) : PX4 σ1 o F T A := by
  unfold PX4 at h ⊢
  simp only [e]
  exact h
theorem WX.cg {σ σ1 : xS} {w tw : Nat} {X : Nat → Int32} {nr nb : Nat} {t : xT} {ln : Nat} (h : WX σ w tw X nr nb t ln) (e : ∀ i, σ1.2 (w, i) = σ.2 (w, i)) (e2 : ∀ i, σ1.2 (tw, i) = σ.2 (tw, i)) : WX σ1 w tw X nr nb t ln := by
  obtain ⟨F, T, A, ⟨h1, h2, ⟨Ft, Tt, At, h3, h4⟩, h5⟩, h6⟩ := h
  subst h6
  exact ⟨F, T, A, ⟨h1.cg e, h2, ⟨Ft, Tt, At, h3.cg e2, h4⟩, h5⟩, rfl⟩
/-- the search's object: go holds ql -/
def GX (σ : xS) (go nr nb : Nat) (ql : wQ) : Prop := ∃ F T A, PX1 σ go F T A ∧ RG (A 2) (A 1) nr nb ql ∧ F 2 = nI ql.length ∧ F 3 = nI nr
theorem GX.off {σ σ1 : xS} {go o nr nb : Nat} {ql : wQ} (h : GX σ go nr nb ql) (ho : Off o σ σ1) (hne : go ≠ o) : GX σ1 go nr nb ql := by
  obtain ⟨F, T, A, h1, h2⟩ := h
  exact ⟨F, T, A, h1.off ho hne, h2⟩
theorem swap_cg {X : Nat → Int32} {nr nb r b : Nat} (hG : Gd X nr nb) (hr : r < nr) : ∀ j, ¬ (1 ≤ j ∧ j ≤ nr) → swapF X nr r b j = X j := by
  intro j hj
  rw [swapF, upd_n (by omega)]
  split
  · rfl
  · rename_i hn
    have hr4 := hG.r4
    obtain ⟨q, hq, e⟩ := holdF_has hn
    rw [e, nI_clamp (by omega), upd_n (by omega)]
theorem VM_ne {X : Nat → Int32} {nr nb k r s h : Nat} (hG : Gd X nr nb) (hV : VMr k X nr) (hr : r < nr) (hs : s < nr) (hrs : r ≠ s) (e : X (1 + s) = nI h) (hh : h < 7) : ¬ X (1 + r) = nI h := by
  intro q
  have hr4 := hG.r4
  have e1 : dgX X nr r = h := by rw [dgX, if_pos ⟨hr, by rw [q]; exact nI_nneg (by omega) (by decide)⟩, q, nI_clamp (by omega)]
  have e2 : dgX X nr s = h := by rw [dgX, if_pos ⟨hs, by rw [e]; exact nI_nneg (by omega) (by decide)⟩, e, nI_clamp (by omega)]
  rcases hV.2 r s (by omega) (by omega) hrs with z | z <;> omega
theorem swap_tk {X : Nat → Int32} {nr r b : Nat} (h4 : nr ≤ 4) (h : onF X nr (nI b) = true) : swapF X nr r b = upd X (1 + r) (nI b) := by
  rw [swapF, if_pos ((holdF_on h4).mpr h)]
theorem swap_ch {X : Nat → Int32} {nr nb k r o h : Nat} (hG : Gd X nr nb) (hV : VMr k X nr) (hr : r < nr) (ho : o < nr) (hro : r ≠ o) (e : X (1 + o) = nI h) (hh : h < 7) : swapF X nr r h = swpF X r o := by
  have h4 := hG.r4
  have hf : holdF X nr (nI h) = nI o := by
    rw [holdF, show fst (fun j => X (1 + j) == nI h) nr = some o from fst_some.mpr ⟨ho, by rw [e]; exact beq_self_eq_true _, fun i hi => beq_eq_false_iff_ne.mpr (VM_ne hG hV (by omega) ho (by omega) e hh)⟩]
  rw [swapF, if_neg (by rw [hf]; exact nI_nneg (by omega) (by decide)), hf, nI_clamp (by omega), swpF, e]
  funext j
  by_cases e1 : j = 1 + r
  · subst e1; rw [upd_s, upd_n (by omega), upd_s]
  · rw [upd_n e1]
    by_cases e2 : j = 1 + o
    · subst e2; rw [upd_s, upd_s]
    · rw [upd_n e2, upd_n e2, upd_n e1]
/-- what one GO leads to, in the class's order -/
def spL (X : Nat → Int32) (t : xT) (nr nb : Nat) : Nat → List Nat
  | 0 => []
  | r + 1 => spL X t nr nb r ++ tkB X nr r nb ++ chB X t nr r nr
theorem spL_mem {X : Nat → Int32} {t : xT} {nr nb c : Nat} : ∀ {r : Nat}, c ∈ spL X t nr nb r ↔ ∃ r', r' < r ∧ (c ∈ tkB X nr r' nb ∨ c ∈ chB X t nr r' nr)
  | 0 => by simp [spL]
  | r + 1 => by
    rw [spL, List.mem_append, List.mem_append, spL_mem]
    constructor
    · rintro ((⟨r', h1, h2⟩ | h) | h)
      · exact ⟨r', by omega, h2⟩
      · exact ⟨r, by omega, Or.inl h⟩
      · exact ⟨r, by omega, Or.inr h⟩
    · rintro ⟨r', h1, h2⟩
      by_cases e : r' = r
      · subst e
        rcases h2 with h2 | h2
        · exact Or.inl (Or.inr h2)
        · exact Or.inr h2
      · exact Or.inl (Or.inl ⟨r', by omega, h2⟩)
theorem spL_nb {X : Nat → Int32} {t : xT} {nr nb c : Nat} : c ∈ spL X t nr nb nr ↔ c ∈ nbL X t nr nb := by
  rw [spL_mem, nbL, List.mem_append, tkR_mem, chA_mem]
  constructor
  · rintro ⟨r, h1, h2 | h2⟩
    · exact Or.inl ⟨r, h1, h2⟩
    · exact Or.inr ⟨r, h1, h2⟩
  · rintro (⟨r, h1, h2⟩ | ⟨r, h1, h2⟩)
    · exact ⟨r, h1, Or.inl h2⟩
    · exact ⟨r, h1, Or.inr h2⟩
/-- within the class's work at one way, all is well made -/
theorem sp_ok {X : Nat → Int32} {t : xT} {nr nb k n : Nat} {ql : wQ} (hG : Gd X nr nb) (hV : VMr k X nr) (hok : okQ nr nb ql) (hv : VMq k ql) (hn : n ≤ ql.length) : ∀ (l : List Nat), (∀ c ∈ l, c ∈ nbL X t nr nb) → okQ nr nb (mL n ql l) ∧ ql.length ≤ (mL n ql l).length ∧ VMq k (mL n ql l) := by
  intro l hl
  have hc : ∀ c ∈ l, okV nr nb c ∧ vmk k c = true := by
    intro c hc
    obtain ⟨Y, h1, rfl⟩ := nbL_mem.mp (hl c hc)
    have hY := (NBq_ok hG h1).1
    exact ⟨okV_way hY, vm_of hY (VM_NB hG hV h1)⟩
  obtain ⟨h1, h2⟩ := okQ_mL l hok (fun c h => (hc c h).1) hn
  refine ⟨h1, h2, ?_⟩
  clear h1 h2 hok hn
  induction l generalizing ql with
  | nil => exact hv
  | cons c l ih => exact ih (VM_meet hv (hc c (List.mem_cons_self ..)).2) (fun c h => hl c (List.mem_cons_of_mem _ h)) (fun c h => hc c (List.mem_cons_of_mem _ h))
theorem nb_take {X : Nat → Int32} {t : xT} {nr nb r b : Nat} (hr : r < nr) (hb : b < nb) (h : mayF X nr r b = true) : NBq X t nr nb (upd X (1 + r) (nI b)) := Or.inl ⟨r, b, hr, hb, h, rfl⟩
theorem nb_chg {X : Nat → Int32} {t : xT} {nr nb r o : Nat} (hr : r < o) (ho : o < nr) (h : chF X t r o = true) : NBq X t nr nb (swpF X r o) := Or.inr ⟨r, o, hr, ho, h, rfl⟩
theorem may_on {X : Nat → Int32} {nr r b : Nat} (h : mayF X nr r b = true) : onF X nr (nI b) = true := by
  rw [mayF, Bool.and_eq_true] at h
  exact h.1
theorem ch_has {X : Nat → Int32} {t : xT} {r o : Nat} (h : chF X t r o = true) : ¬ X (1 + o) = -1 := by
  rw [chF, Bool.and_eq_true, Bool.and_eq_true] at h
  simpa using h.2.1
theorem sp_pre1 {X : Nat → Int32} {t : xT} {nr nb r b c : Nat} (hr : r < nr) (hb : b ≤ nb) (h : c ∈ spL X t nr nb r ++ tkB X nr r b) : c ∈ nbL X t nr nb := by
  refine spL_nb.mp (spL_mem.mpr ?_)
  rcases List.mem_append.mp h with h | h
  · obtain ⟨r', h1, h2⟩ := spL_mem.mp h
    exact ⟨r', by omega, h2⟩
  · obtain ⟨b', h1, h2⟩ := tkB_mem.mp h
    exact ⟨r, hr, Or.inl (tkB_mem.mpr ⟨b', by omega, h2⟩)⟩
theorem sp_pre2 {X : Nat → Int32} {t : xT} {nr nb r o c : Nat} (hr : r < nr) (ho : o ≤ nr) (h : c ∈ spL X t nr nb r ++ tkB X nr r nb ++ chB X t nr r o) : c ∈ nbL X t nr nb := by
  rcases List.mem_append.mp h with h | h
  · exact sp_pre1 hr (Nat.le_refl _) h
  · refine spL_nb.mp (spL_mem.mpr ?_)
    obtain ⟨b', h1, h2⟩ := chB_mem.mp h
    exact ⟨r, hr, Or.inr (chB_mem.mpr ⟨b', by omega, h2⟩)⟩
theorem Rch_VM {X : Nat → Int32} {t : xT} {nr nb : Nat} (hG : Gd X nr nb) (hJ : okJ X nr) : ∀ (n c : Nat), Rch X t nr nb n c → okV nr nb c ∧ VMr (mskX X nr) (setW X nr c) nr
  | 0, c, h => by
    have h : c = wayX X nr := h
    subst h
    rw [set_way hG]
    exact ⟨okV_way hG, VM_0 hG hJ⟩
  | n + 1, c, h => by
    obtain ⟨w, h1, h2⟩ := h
    obtain ⟨hw, hV⟩ := Rch_VM hG hJ n w h1
    obtain ⟨Y, h3, rfl⟩ := nbL_mem.mp h2
    have hGw := Gd_setW hG hw
    obtain ⟨hY, hYc⟩ := NBq_ok hGw h3
    have e : setW X nr (wayX Y nr) = Y := by
      rw [← setW_cg (X := X) (Y := Y) (fun j hj => (hYc j hj).trans (setW_n hj))]
      exact set_way hY
    rw [e]
    exact ⟨okV_way hY, VM_NB hGw hV h3⟩
theorem LB.setW {X : Nat → Int32} {nr v ln : Nat} (h : LB X ln) : LB (setW X nr v) ln := by
  obtain ⟨dy, h1, h2, h3⟩ := h
  exact ⟨dy, h1, (setW_n (by omega)).trans h2, h3⟩
set_option maxRecDepth 100000 in
set_option maxHeartbeats 4000000 in
theorem c_fill {G : xG} {σ : xS} {o i len : Nat} {f : Nat → Int32} {v : Int32} (he : σ.2 (o, i) = some (.inl (0, len, f))) (hlen : len ≤ 4096) : CV G yJ7_fill_53178 cJ7_fill_53178 4 none 0 0 0 [.ref (o + i), .int v] σ (fun σ1 => ∃ g : Nat → Int32, (∀ j, j < len → g j = v) ∧ σ1 = xset σ (o, i) (.inl (0, len, g))) := by
  refine Met.ofX (by decide +kernel) (Nat.le_of_ble_eq_true rfl) (fun μ X hQ hnm => ?_)
  have X : xC G μ cJ7_fill_53178 4 RJ7 none 0 0 0 := X
  have lp5 : ∀ (n k : Nat) (g : Nat → Int32) (σ2 : xS), len - k < n → k ≤ len → (∀ j, j < k → g j = v) → σ2 = xset σ (o, i) (.inl (0, len, g)) → Ev G μ 4 0 0 5 [(0, .ref (o + i)), (1, .int v), (2, .int (nI k)), (3, .int (nI len))] [] σ2 := by
    intro n
    induction n with
    | zero => intro k g σ2 hn; exact absurd hn (Nat.not_lt_zero _)
    | succ n ih =>
      intro k g σ2 hn hk hg hs
      have ht : σ2.2 (o, i) = some (.inl (0, len, g)) := by rw [hs, xset_s]
      refine e_iload_n (pc := 5) X (dT hJ7_fill_53178 5 rfl) 2 rfl ?_
      refine e_iload_n (pc := 6) X (dT hJ7_fill_53178 6 rfl) 3 rfl ?_
      refine e_icmp_geN (x := k) (y := len) (tgt := 20) (pc := 7) X (dT hJ7_fill_53178 7 rfl) rfl (by omega) (by omega) (fun c7 => ?_) (fun c7 => ?_)
      · exact e_vret (pc := 20) X hQ (dT hJ7_fill_53178 14 rfl) (Nat.le_refl _) (Nat.le_refl _) ⟨g, fun j hj => hg j (by omega), hs⟩
      · refine e_aload_n (pc := 10) X (dT hJ7_fill_53178 8 rfl) 0 rfl ?_
        refine e_iload_n (pc := 11) X (dT hJ7_fill_53178 9 rfl) 2 rfl ?_
        refine e_iload_n (pc := 12) X (dT hJ7_fill_53178 10 rfl) 1 rfl ?_
        refine e_iastN (pc := 13) X (dT hJ7_fill_53178 11 rfl) ht rfl k rfl c7 hlen ?_
        refine e_iincN (a := k) (b := 1) (L' := [(2, .int (nI (k + 1))), (0, .ref (o + i)), (1, .int v), (3, .int (nI len))]) (pc := 14) X (dT hJ7_fill_53178 12 rfl) 2 rfl rfl (by decide) rfl ?_
        refine e_goto (tgt := 5) (pc := 17) X (dT hJ7_fill_53178 13 rfl) rfl ?_
        refine Ev.pick (L' := [(0, .ref (o + i)), (1, .int v), (2, .int (nI (k + 1))), (3, .int (nI len))]) [1, 2, 0, 3] rfl ?_
        refine ih (k + 1) (upd g k v) _ (by omega) (by omega) (fun j hj => ?_) ?_
        · by_cases e : j = k
          · subst e; rw [pk_us]
          · rw [pk_un e]; exact hg j (by omega)
        · rw [hs, xset_2]
  show Ev G μ 4 0 0 0 [(0, .ref (o + i)), (1, .int v)] [] σ
  refine e_iconst (v := 0) (pc := 0) X (dT hJ7_fill_53178 0 rfl) rfl ?_
  refine e_istore_n (L' := [(2, .int 0), (0, .ref (o + i)), (1, .int v)]) (pc := 1) X (dT hJ7_fill_53178 1 rfl) (by decide) rfl ?_
  refine e_aload_n (pc := 2) X (dT hJ7_fill_53178 2 rfl) 1 rfl ?_
  refine e_alen (v := nI len) (pc := 3) X (dT hJ7_fill_53178 3 rfl) he rfl rfl ?_
  refine e_istore_n (L' := [(3, .int (nI len)), (2, .int 0), (0, .ref (o + i)), (1, .int v)]) (pc := 4) X (dT hJ7_fill_53178 4 rfl) (by decide) rfl ?_
  refine Ev.pick (L' := [(0, .ref (o + i)), (1, .int v), (2, .int 0), (3, .int (nI len))]) [2, 3, 1, 0] rfl ?_
  exact lp5 (len - 0 + 1) 0 f σ (Nat.lt_succ_self _) (Nat.zero_le _) (fun j hj => absurd hj (Nat.not_lt_zero j)) (xset_id he).symm
theorem hs_eq {v r b : Nat} (hb : b < 7) : hsW v r = nI b ↔ dgW v r = b := by
  have h8 : dgW v r < 8 := Nat.mod_lt _ (by decide)
  rw [hsW]
  by_cases e : dgW v r = 7
  · rw [if_pos e]
    exact ⟨fun q => absurd q.symm (nI_nneg (by omega) (by decide)), fun q => by omega⟩
  · rw [if_neg e]
    exact nI_eq (by omega) (by omega)
theorem bitN_0 {q : Nat → Bool} (n : Nat) (h : ∀ b, q b = false := by intro b; rfl) : bitN q n = 0 := by
  induction n with
  | zero => rfl
  | succ n ih => rw [bitN, ih, h n]; rfl
def rchP (ql : wQ) (r k b : Nat) : Bool := (ql.take k).any (fun q => hsW q.1 r == nI b)
theorem rchP_s {ql : wQ} {r k b : Nat} (h : k < ql.length) : rchP ql r (k + 1) b = (rchP ql r k b || hsW (gQ ql k).1 r == nI b) := by
  rw [rchP, tk_s h, List.any_append, rchP]
  simp
theorem reach_bits {ql : wQ} {nr nb r : Nat} (hok : okQ nr nb ql) (hb : nb ≤ 7) : reachL ql nb r = nI (bitN (rchP ql r ql.length) nb) := by
  rw [reachL, ← itr_bit (p := rchP ql r ql.length) hb]
  have e : ∀ n, n ≤ 7 → itr (fun b a => a ||| (if fewL ql r (nI b) = -5 then (0 : Int32) else 1 <<< (nI b &&& 31))) 0 n = itr (fun b a => a ||| (if rchP ql r ql.length b = true then 1 <<< (nI b &&& 31) else 0)) 0 n := by
    intro n
    induction n with
    | zero => intro _; rfl
    | succ n ih =>
      intro hn
      rw [itr, itr, ih (by omega)]
      congr 1
      rw [rchP, List.take_length, fewL]
      cases hf : ql.find? (fun q => hsW q.1 r == nI n) with
      | none =>
        have : (ql.any fun q => hsW q.1 r == nI n) = false := by
          rw [List.any_eq_false]
          exact List.find?_eq_none.mp hf
        rw [this]
        simp
      | some q =>
        have h1 := List.mem_of_find?_eq_some hf
        have h2 := List.find?_some hf
        have h3 : (ql.any fun q => hsW q.1 r == nI n) = true := List.any_eq_true.mpr ⟨q, h1, h2⟩
        have := okQ_d hok h1
        rw [h3]
        show (if nI q.2 = -5 then (0 : Int32) else 1 <<< (nI n &&& 31)) = _
        rw [if_neg (nI_nneg (by omega) (by decide)), if_pos rfl]
  exact e nb hb
theorem cd_tail {nr nb v : Nat} (hn : nr ≤ 4) (h : okV nr nb v) : v = cdW nr v * 8 ^ (4 - nr) + (8 ^ (4 - nr) - 1) := by
  have hv := h.1
  have t : ∀ r, r < 4 → nr ≤ r → dgW v r = 7 := fun r hr hnr => (h.2 r hr).resolve_right (fun q => absurd q.1 (by omega))
  rcases (show nr = 0 ∨ nr = 1 ∨ nr = 2 ∨ nr = 3 ∨ nr = 4 by omega) with rfl | rfl | rfl | rfl | rfl
  · have t0 : v / 512 % 8 = 7 := t 0 (by decide) (by decide)
    have t1 : v / 64 % 8 = 7 := t 1 (by decide) (by decide)
    have t2 : v / 8 % 8 = 7 := t 2 (by decide) (by decide)
    have t3 : v / 1 % 8 = 7 := t 3 (by decide) (by decide)
    show v = v / 4096 * 4096 + 4095
    omega
  · have t1 : v / 64 % 8 = 7 := t 1 (by decide) (by decide)
    have t2 : v / 8 % 8 = 7 := t 2 (by decide) (by decide)
    have t3 : v / 1 % 8 = 7 := t 3 (by decide) (by decide)
    show v = v / 512 * 512 + 511
    omega
  · have t2 : v / 8 % 8 = 7 := t 2 (by decide) (by decide)
    have t3 : v / 1 % 8 = 7 := t 3 (by decide) (by decide)
    show v = v / 64 * 64 + 63
    omega
  · have t3 : v / 1 % 8 = 7 := t 3 (by decide) (by decide)
    show v = v / 8 * 8 + 7
    omega
  · show v = v / 1 * 1 + 0
    omega
theorem cd_ord {nr nb v w : Nat} (hn : nr ≤ 4) (hv : okV nr nb v) (hw : okV nr nb w) : cdW nr v < cdW nr w ↔ v < w := by
  have e1 := cd_tail hn hv
  have e2 := cd_tail hn hw
  have hp : 0 < 8 ^ (4 - nr) := Nat.pow_pos (by decide)
  constructor
  · intro h
    have := Nat.mul_le_mul_right (8 ^ (4 - nr)) (show cdW nr v + 1 ≤ cdW nr w from h)
    rw [Nat.succ_mul] at this
    omega
  · intro h
    rcases Nat.lt_or_ge (cdW nr v) (cdW nr w) with q | q
    · exact q
    · have := Nat.mul_le_mul_right (8 ^ (4 - nr)) q
      omega
def relC (nr nb : Nat) (o : Option (Nat × Int32)) (be to : Int32) : Prop := match o with
  | none => be = -5
  | some p => be = nI (cdW nr p.1) ∧ to = p.2 ∧ okV nr nb p.1
