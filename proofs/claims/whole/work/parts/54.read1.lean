set_option maxRecDepth 100000 in
set_option maxHeartbeats 4000000 in
theorem c_here {G : xG} {σ : xS} {m : Nat} {F : Nat → Int32} {T : Nat → Nat} {A : Nat → Nat → Int32} (hP : PX7 σ m F T A) {H : Nat → Int32} {nt a n0 : Nat} (hp : PH (A 1) F H nt a n0) (s : Bool × Nat) (hs : s.2 ≤ nt) (hF : F 6 = nI s.2 ∧ F 8 = bI (!s.1)) : CI G yX7_here cX7_here 1 (some .int) 0 0 0 [.ref m] σ (fun z σ1 => z = H s.2 ∧ σ1 = σ) := by
  refine Met.ofX (by decide +kernel) (Nat.le_of_ble_eq_true rfl) (fun μ Xc hQ hnm => ?_)
  have Xc : xC G μ cX7_here 1 RX7 (some .int) 0 0 0 := Xc
  have hnt_ := hp.1
  have ha5_ := hp.2.1
  show Ev G μ 1 0 0 0 [(0, .ref m)] [] σ
  refine e_aload_n (pc := 0) Xc (dT hX7_here 0 rfl) 0 rfl ?_
  refine gf_X7_54 (pc := 1) Xc (dT hX7_here 1 rfl) hP.o rfl ?_
  refine e_val (y := nI s.2) hF.1 ?_
  refine e_aload_n (pc := 4) Xc (dT hX7_here 2 rfl) 0 rfl ?_
  refine gf_X7_57 (pc := 5) Xc (dT hX7_here 3 rfl) hP.o rfl ?_
  refine e_val (y := nI nt) hp.2.2.2.2.1 ?_
  refine e_icmp_geN (x := s.2) (y := nt) (tgt := 26) (pc := 8) Xc (dT hX7_here 4 rfl) rfl (by omega) (by omega) (fun c8 => ?_) (fun c8 => ?_)
  · skip
    refine e_iconst (v := -1) (pc := 26) Xc (dT hX7_here 13 rfl) rfl ?_
    refine e_iret (pc := 27) Xc hQ (dT hX7_here 14 rfl) (Nat.le_refl _) (Nat.le_refl _) ?_
    exact ⟨(hp.2.2.1 _ c8).symm, rfl⟩
  · skip
    refine e_aload_n (pc := 11) Xc (dT hX7_here 5 rfl) 0 rfl ?_
    refine gf_X7_9 (pc := 12) Xc (dT hX7_here 6 rfl) hP.o rfl ?_
    refine e_bipush (v := 94) (pc := 15) Xc (dT hX7_here 7 rfl) rfl ?_
    refine e_aload_n (pc := 17) Xc (dT hX7_here 8 rfl) 0 rfl ?_
    refine gf_X7_54 (pc := 18) Xc (dT hX7_here 9 rfl) hP.o rfl ?_
    refine e_val (y := nI s.2) hF.1 ?_
    refine e_iaddN (a := 94) (b := s.2) (pc := 21) Xc (dT hX7_here 10 rfl) ?_
    refine e_ialdN (pc := 22) Xc (dT hX7_here 11 rfl) hP.a1 (by decide) rfl (94 + s.2) rfl (by omega) (by decide) ?_
    refine e_goto (tgt := 27) (pc := 23) Xc (dT hX7_here 12 rfl) rfl ?_
    refine e_iret (pc := 27) Xc hQ (dT hX7_here 14 rfl) (Nat.le_refl _) (Nat.le_refl _) ?_
    exact ⟨hp.2.2.2.1 _ c8, rfl⟩
set_option maxRecDepth 100000 in
set_option maxHeartbeats 4000000 in
theorem c_must {G : xG} {σ : xS} {m : Nat} {F : Nat → Int32} {T : Nat → Nat} {A : Nat → Nat → Int32} (hP : PX7 σ m F T A) {H : Nat → Int32} {nt a n0 : Nat} (hp : PH (A 1) F H nt a n0) (s : Bool × Nat) (hs : s.2 ≤ nt) (hF : F 6 = nI s.2 ∧ F 8 = bI (!s.1)) (c : Int32) : CV G yX7_must cX7_must 2 none 1 0 0 [.ref m, .int c] σ (fun σ1 => PX7 σ1 m (fP F (mustP H c s)) T A ∧ Off m σ σ1) := by
  refine Met.ofX (by decide +kernel) (Nat.le_of_ble_eq_true rfl) (fun μ Xc hQ hnm => ?_)
  have Xc : xC G μ cX7_must 2 RX7 none 1 0 0 := Xc
  have hnt_ := hp.1
  have ha5_ := hp.2.1
  show Ev G μ 2 0 0 0 [(0, .ref m), (1, .int c)] [] σ
  rcases s with ⟨_ | _, p_⟩
  · skip
    have hF6_ : F 6 = nI p_ := hF.1
    have hF8_ : F 8 = 1 := hF.2
    have hs_ : p_ ≤ nt := hs
    refine e_aload_n (pc := 0) Xc (dT hX7_must 0 rfl) 0 rfl ?_
    refine e_aload_n (pc := 1) Xc (dT hX7_must 1 rfl) 0 rfl ?_
    refine gf_X7_60 (pc := 2) Xc (dT hX7_must 2 rfl) hP.o rfl ?_
    refine e_val (y := 1) hF8_ ?_
    refine e_if_ne (tgt := 16) (pc := 5) Xc (dT hX7_must 3 rfl) rfl (fun c5 => ?_) (fun c5 => ?_)
    · skip
      refine e_iconst (v := 1) (pc := 16) Xc (dT hX7_must 8 rfl) rfl ?_
      refine e_goto (tgt := 21) (pc := 17) Xc (dT hX7_must 9 rfl) rfl ?_
      refine pf_X7_60 (fs' := olX7 m (upd F 8 1) T) (pc := 21) Xc (dT hX7_must 11 rfl) (Or.inr rfl) hP.o (Nat.le_of_ble_eq_true rfl) rfl ?_
      refine Ev.gen (fun z => PX7 z m (upd F 8 1) T A) (hP.wf8 (x := 1)) Off.set (fun σ1 hP2 ho3 => ?_)
      refine e_aload_n (pc := 24) Xc (dT hX7_must 12 rfl) 0 rfl ?_
      refine e_dup (pc := 25) Xc (dT hX7_must 13 rfl) rfl ?_
      refine gf_X7_54 (pc := 26) Xc (dT hX7_must 14 rfl) hP2.o rfl ?_
      refine e_val (y := F 6) rfl ?_
      refine e_val (y := nI p_) hF6_ ?_
      refine e_aload_n (pc := 29) Xc (dT hX7_must 15 rfl) 0 rfl ?_
      refine gf_X7_60 (pc := 30) Xc (dT hX7_must 16 rfl) hP2.o rfl ?_
      refine e_val (y := 1) rfl ?_
      refine e_if_eq (tgt := 40) (pc := 33) Xc (dT hX7_must 17 rfl) rfl (fun c33 => ?_) (fun c33 => ?_)
      · skip
        exact absurd c33 (by decide)
      · skip
        refine e_iconst (v := 0) (pc := 36) Xc (dT hX7_must 18 rfl) rfl ?_
        refine e_goto (tgt := 41) (pc := 37) Xc (dT hX7_must 19 rfl) rfl ?_
        refine e_iaddN (a := p_) (b := 0) (pc := 41) Xc (dT hX7_must 21 rfl) ?_
        refine e_val (y := nI p_) (congrArg nI (by omega)) ?_
        refine pf_X7_54 (fs' := olX7 m (upd (upd F 8 1) 6 (nI p_)) T) (pc := 42) Xc (dT hX7_must 22 rfl) hP2.o (Nat.le_of_ble_eq_true rfl) rfl ?_
        refine Ev.gen (fun z => PX7 z m (upd (upd F 8 1) 6 (nI p_)) T A) (hP2.wf6 (x := nI p_)) Off.set (fun σ4 hP5 ho6 => ?_)
        refine e_vret (pc := 45) Xc hQ (dT hX7_must 23 rfl) (Nat.le_refl _) (Nat.le_refl _) ?_
        rw [show mustP H c (false, p_) = (false, p_) from if_neg (fun q => Bool.noConfusion q.1), show fP F (false, p_) = (upd (upd F 8 1) 6 (nI p_)) from (by funext j_; simp only [fP, upd]; repeat' split <;> simp_all [bI])]
        exact ⟨hP5, (ho3.tr ho6)⟩
    · skip
      exact absurd c5 (by decide)
  · skip
    have hF6_ : F 6 = nI p_ := hF.1
    have hF8_ : F 8 = 0 := hF.2
    have hs_ : p_ ≤ nt := hs
    refine e_aload_n (pc := 0) Xc (dT hX7_must 0 rfl) 0 rfl ?_
    refine e_aload_n (pc := 1) Xc (dT hX7_must 1 rfl) 0 rfl ?_
    refine gf_X7_60 (pc := 2) Xc (dT hX7_must 2 rfl) hP.o rfl ?_
    refine e_val (y := 0) hF8_ ?_
    refine e_if_ne (tgt := 16) (pc := 5) Xc (dT hX7_must 3 rfl) rfl (fun c5 => ?_) (fun c5 => ?_)
    · skip
      exact absurd c5 (by decide)
    · skip
      refine e_aload_n (pc := 8) Xc (dT hX7_must 4 rfl) 0 rfl ?_
      refine cl_X7_64 (pc := 9) (k := 0) (n := 0) (S := [.ref m]) Xc hP.o (c_here hP hp (true, p_) hs hF) (dT hX7_must 5 rfl) rfl (Nat.le_of_ble_eq_true rfl) (Nat.le_of_ble_eq_true rfl) (Nat.le_of_ble_eq_true rfl) rfl (Nat.le_of_ble_eq_true rfl) (fun r7 σ8 hq9 => ?_)
      obtain ⟨r7e, r7s⟩ := hq9
      have r7e := r7e.symm; subst r7e; have r7s := r7s.symm; subst r7s
      refine e_val (y := H p_) rfl ?_
      refine e_iload_n (pc := 12) Xc (dT hX7_must 6 rfl) 1 rfl ?_
      refine e_icmp_eq (tgt := 20) (pc := 13) Xc (dT hX7_must 7 rfl) rfl (fun c13 => ?_) (fun c13 => ?_)
      · skip
        refine e_iconst (v := 0) (pc := 20) Xc (dT hX7_must 10 rfl) rfl ?_
        refine pf_X7_60 (fs' := olX7 m (upd F 8 0) T) (pc := 21) Xc (dT hX7_must 11 rfl) (Or.inl rfl) hP.o (Nat.le_of_ble_eq_true rfl) rfl ?_
        refine Ev.gen (fun z => PX7 z m (upd F 8 0) T A) (hP.wf8 (x := 0)) Off.set (fun σ10 hP11 ho12 => ?_)
        refine e_aload_n (pc := 24) Xc (dT hX7_must 12 rfl) 0 rfl ?_
        refine e_dup (pc := 25) Xc (dT hX7_must 13 rfl) rfl ?_
        refine gf_X7_54 (pc := 26) Xc (dT hX7_must 14 rfl) hP11.o rfl ?_
        refine e_val (y := F 6) rfl ?_
        refine e_val (y := nI p_) hF6_ ?_
        refine e_aload_n (pc := 29) Xc (dT hX7_must 15 rfl) 0 rfl ?_
        refine gf_X7_60 (pc := 30) Xc (dT hX7_must 16 rfl) hP11.o rfl ?_
        refine e_val (y := 0) rfl ?_
        refine e_if_eq (tgt := 40) (pc := 33) Xc (dT hX7_must 17 rfl) rfl (fun c33 => ?_) (fun c33 => ?_)
        · skip
          refine e_iconst (v := 1) (pc := 40) Xc (dT hX7_must 20 rfl) rfl ?_
          refine e_iaddN (a := p_) (b := 1) (pc := 41) Xc (dT hX7_must 21 rfl) ?_
          refine pf_X7_54 (fs' := olX7 m (upd (upd F 8 0) 6 (nI (p_ + 1))) T) (pc := 42) Xc (dT hX7_must 22 rfl) hP11.o (Nat.le_of_ble_eq_true rfl) rfl ?_
          refine Ev.gen (fun z => PX7 z m (upd (upd F 8 0) 6 (nI (p_ + 1))) T A) (hP11.wf6 (x := nI (p_ + 1))) Off.set (fun σ13 hP14 ho15 => ?_)
          refine e_vret (pc := 45) Xc hQ (dT hX7_must 23 rfl) (Nat.le_refl _) (Nat.le_refl _) ?_
          rw [show mustP H c (true, p_) = (true, p_ + 1) from if_pos ⟨rfl, c13⟩, show fP F (true, p_ + 1) = (upd (upd F 8 0) 6 (nI (p_ + 1))) from (by funext j_; simp only [fP, upd]; repeat' split <;> simp_all [bI])]
          exact ⟨hP14, (ho12.tr ho15)⟩
        · skip
          exact absurd c33 (by decide)
      · skip
        refine e_iconst (v := 1) (pc := 16) Xc (dT hX7_must 8 rfl) rfl ?_
        refine e_goto (tgt := 21) (pc := 17) Xc (dT hX7_must 9 rfl) rfl ?_
        refine pf_X7_60 (fs' := olX7 m (upd F 8 1) T) (pc := 21) Xc (dT hX7_must 11 rfl) (Or.inr rfl) hP.o (Nat.le_of_ble_eq_true rfl) rfl ?_
        refine Ev.gen (fun z => PX7 z m (upd F 8 1) T A) (hP.wf8 (x := 1)) Off.set (fun σ16 hP17 ho18 => ?_)
        refine e_aload_n (pc := 24) Xc (dT hX7_must 12 rfl) 0 rfl ?_
        refine e_dup (pc := 25) Xc (dT hX7_must 13 rfl) rfl ?_
        refine gf_X7_54 (pc := 26) Xc (dT hX7_must 14 rfl) hP17.o rfl ?_
        refine e_val (y := F 6) rfl ?_
        refine e_val (y := nI p_) hF6_ ?_
        refine e_aload_n (pc := 29) Xc (dT hX7_must 15 rfl) 0 rfl ?_
        refine gf_X7_60 (pc := 30) Xc (dT hX7_must 16 rfl) hP17.o rfl ?_
        refine e_val (y := 1) rfl ?_
        refine e_if_eq (tgt := 40) (pc := 33) Xc (dT hX7_must 17 rfl) rfl (fun c33 => ?_) (fun c33 => ?_)
        · skip
          exact absurd c33 (by decide)
        · skip
          refine e_iconst (v := 0) (pc := 36) Xc (dT hX7_must 18 rfl) rfl ?_
          refine e_goto (tgt := 41) (pc := 37) Xc (dT hX7_must 19 rfl) rfl ?_
          refine e_iaddN (a := p_) (b := 0) (pc := 41) Xc (dT hX7_must 21 rfl) ?_
          refine e_val (y := nI p_) (congrArg nI (by omega)) ?_
          refine pf_X7_54 (fs' := olX7 m (upd (upd F 8 1) 6 (nI p_)) T) (pc := 42) Xc (dT hX7_must 22 rfl) hP17.o (Nat.le_of_ble_eq_true rfl) rfl ?_
          refine Ev.gen (fun z => PX7 z m (upd (upd F 8 1) 6 (nI p_)) T A) (hP17.wf6 (x := nI p_)) Off.set (fun σ19 hP20 ho21 => ?_)
          refine e_vret (pc := 45) Xc hQ (dT hX7_must 23 rfl) (Nat.le_refl _) (Nat.le_refl _) ?_
          rw [show mustP H c (true, p_) = (false, p_) from if_neg (fun q => c13 q.2), show fP F (false, p_) = (upd (upd F 8 1) 6 (nI p_)) from (by funext j_; simp only [fP, upd]; repeat' split <;> simp_all [bI])]
          exact ⟨hP20, (ho18.tr ho21)⟩
set_option maxRecDepth 100000 in
set_option maxHeartbeats 4000000 in
theorem c_figures {G : xG} {σ : xS} {m : Nat} {F : Nat → Int32} {T : Nat → Nat} {A : Nat → Nat → Int32} (hP : PX7 σ m F T A) {H : Nat → Int32} {nt a n0 : Nat} (hp : PH (A 1) F H nt a n0) (s : Bool × Nat) (hs : s.2 ≤ nt) (hF : F 6 = nI s.2 ∧ F 8 = bI (!s.1)) : CI G yX7_figures cX7_figures 3 (some .int) 1 0 0 [.ref m] σ (fun z σ1 => z = nI (figP H s).2 ∧ PX7 σ1 m (fP F (figP H s).1) T A ∧ Off m σ σ1) := by
  refine Met.ofX (by decide +kernel) (Nat.le_of_ble_eq_true rfl) (fun μ Xc hQ hnm => ?_)
  have Xc : xC G μ cX7_figures 3 RX7 (some .int) 1 0 0 := Xc
  have hnt_ := hp.1
  have ha5_ := hp.2.1
  show Ev G μ 3 0 0 0 [(0, .ref m)] [] σ
  rcases s with ⟨_ | _, p_⟩
  · skip
    have hF6_ : F 6 = nI p_ := hF.1
    have hF8_ : F 8 = 1 := hF.2
    have hs_ : p_ ≤ nt := hs
    refine e_aload_n (pc := 0) Xc (dT hX7_figures 0 rfl) 0 rfl ?_
    refine e_aload_n (pc := 1) Xc (dT hX7_figures 1 rfl) 0 rfl ?_
    refine gf_X7_60 (pc := 2) Xc (dT hX7_figures 2 rfl) hP.o rfl ?_
    refine e_val (y := 1) hF8_ ?_
    refine e_if_ne (tgt := 22) (pc := 5) Xc (dT hX7_figures 3 rfl) rfl (fun c5 => ?_) (fun c5 => ?_)
    · skip
      refine e_iconst (v := 1) (pc := 22) Xc (dT hX7_figures 10 rfl) rfl ?_
      refine e_goto (tgt := 27) (pc := 23) Xc (dT hX7_figures 11 rfl) rfl ?_
      refine pf_X7_60 (fs' := olX7 m (upd F 8 1) T) (pc := 27) Xc (dT hX7_figures 13 rfl) (Or.inr rfl) hP.o (Nat.le_of_ble_eq_true rfl) rfl ?_
      refine Ev.gen (fun z => PX7 z m (upd F 8 1) T A) (hP.wf8 (x := 1)) Off.set (fun σ1 hP2 ho3 => ?_)
      refine e_iconst (v := 0) (pc := 30) Xc (dT hX7_figures 14 rfl) rfl ?_
      refine e_istore_n (L' := [(1, .int 0), (0, .ref m)]) (pc := 31) Xc (dT hX7_figures 15 rfl) (by decide) rfl ?_
      refine e_iconst (v := 0) (pc := 32) Xc (dT hX7_figures 16 rfl) rfl ?_
      refine e_istore_n (L' := [(2, .int 0), (1, .int 0), (0, .ref m)]) (pc := 33) Xc (dT hX7_figures 17 rfl) (by decide) rfl ?_
      refine e_iload_n (pc := 34) Xc (dT hX7_figures 18 rfl) 0 rfl ?_
      refine e_iconst (v := 2) (pc := 35) Xc (dT hX7_figures 19 rfl) rfl ?_
      refine e_icmp_geN (x := 0) (y := 2) (tgt := 97) (pc := 36) Xc (dT hX7_figures 20 rfl) rfl (by omega) (by omega) (fun c36 => ?_) (fun c36 => ?_)
      · skip
        exact absurd c36 (by decide)
      · skip
        refine e_aload_n (pc := 39) Xc (dT hX7_figures 21 rfl) 2 rfl ?_
        refine gf_X7_60 (pc := 40) Xc (dT hX7_figures 22 rfl) hP2.o rfl ?_
        refine e_val (y := 1) rfl ?_
        refine e_if_ne (tgt := 97) (pc := 43) Xc (dT hX7_figures 23 rfl) rfl (fun c43 => ?_) (fun c43 => ?_)
        · skip
          refine e_iload_n (pc := 97) Xc (dT hX7_figures 51 rfl) 1 rfl ?_
          refine e_iret (pc := 98) Xc hQ (dT hX7_figures 52 rfl) (Nat.le_refl _) (Nat.le_refl _) ?_
          rw [show figP H (false, p_) = ((false, p_), 0) from if_neg (fun q => Bool.noConfusion q.1), show fP F (false, p_) = (upd F 8 1) from (by funext j_; simp only [fP, upd]; repeat' split <;> simp_all [bI])]
          exact ⟨rfl, hP2, ho3⟩
        · skip
          exact absurd c43 (by decide)
    · skip
      exact absurd c5 (by decide)
  · skip
    have hF6_ : F 6 = nI p_ := hF.1
    have hF8_ : F 8 = 0 := hF.2
    have hs_ : p_ ≤ nt := hs
    refine e_aload_n (pc := 0) Xc (dT hX7_figures 0 rfl) 0 rfl ?_
    refine e_aload_n (pc := 1) Xc (dT hX7_figures 1 rfl) 0 rfl ?_
    refine gf_X7_60 (pc := 2) Xc (dT hX7_figures 2 rfl) hP.o rfl ?_
    refine e_val (y := 0) hF8_ ?_
    refine e_if_ne (tgt := 22) (pc := 5) Xc (dT hX7_figures 3 rfl) rfl (fun c5 => ?_) (fun c5 => ?_)
    · skip
      exact absurd c5 (by decide)
    · skip
      refine e_aload_n (pc := 8) Xc (dT hX7_figures 4 rfl) 0 rfl ?_
      refine cl_X7_64 (pc := 9) (k := 0) (n := 0) (S := [.ref m]) Xc hP.o (c_here hP hp (true, p_) hs hF) (dT hX7_figures 5 rfl) rfl (Nat.le_of_ble_eq_true rfl) (Nat.le_of_ble_eq_true rfl) (Nat.le_of_ble_eq_true rfl) rfl (Nat.le_of_ble_eq_true rfl) (fun r4 σ5 hq6 => ?_)
      obtain ⟨r4e, r4s⟩ := hq6
      have r4e := r4e.symm; subst r4e; have r4s := r4s.symm; subst r4s
      refine e_val (y := H p_) rfl ?_
      refine e_bipush (v := 48) (pc := 12) Xc (dT hX7_figures 6 rfl) rfl ?_
      refine e_bipush (v := 57) (pc := 14) Xc (dT hX7_figures 7 rfl) rfl ?_
      refine cl_X7_50 (pc := 16) (k := 0) (n := 0) (S := [.ref m]) Xc (c_in (H p_) 48 57) (dT hX7_figures 8 rfl) rfl (Nat.le_of_ble_eq_true rfl) (Nat.le_of_ble_eq_true rfl) (Nat.le_of_ble_eq_true rfl) rfl (Nat.le_of_ble_eq_true rfl) (fun r7 σ8 hq9 => ?_)
      obtain ⟨r7e, r7s⟩ := hq9
      have r7e := r7e.symm; subst r7e; have r7s := r7s.symm; subst r7s
      refine e_if_ne (tgt := 26) (pc := 19) Xc (dT hX7_figures 9 rfl) rfl (fun c19 => ?_) (fun c19 => ?_)
      · skip
        simp only [bI_0, Bool.not_eq_true, Bool.not_eq_false] at c19
        have hd1_ : dgP (H p_) = true := c19
        obtain ⟨c1_, hc48_, hc57_, he1_⟩ := dg_nat hd1_
        refine e_iconst (v := 0) (pc := 26) Xc (dT hX7_figures 12 rfl) rfl ?_
        refine pf_X7_60 (fs' := olX7 m (upd F 8 0) T) (pc := 27) Xc (dT hX7_figures 13 rfl) (Or.inl rfl) hP.o (Nat.le_of_ble_eq_true rfl) rfl ?_
        refine Ev.gen (fun z => PX7 z m (upd F 8 0) T A) (hP.wf8 (x := 0)) Off.set (fun σ10 hP11 ho12 => ?_)
        refine e_iconst (v := 0) (pc := 30) Xc (dT hX7_figures 14 rfl) rfl ?_
        refine e_istore_n (L' := [(1, .int 0), (0, .ref m)]) (pc := 31) Xc (dT hX7_figures 15 rfl) (by decide) rfl ?_
        refine e_iconst (v := 0) (pc := 32) Xc (dT hX7_figures 16 rfl) rfl ?_
        refine e_istore_n (L' := [(2, .int 0), (1, .int 0), (0, .ref m)]) (pc := 33) Xc (dT hX7_figures 17 rfl) (by decide) rfl ?_
        have hlt1_ := hp.2.2.1.lt rfl (dg_ne hd1_)
        refine e_iload_n (pc := 34) Xc (dT hX7_figures 18 rfl) 0 rfl ?_
        refine e_iconst (v := 2) (pc := 35) Xc (dT hX7_figures 19 rfl) rfl ?_
        refine e_icmp_geN (x := 0) (y := 2) (tgt := 97) (pc := 36) Xc (dT hX7_figures 20 rfl) rfl (by omega) (by omega) (fun c36 => ?_) (fun c36 => ?_)
        · skip
          exact absurd c36 (by decide)
        · skip
          refine e_aload_n (pc := 39) Xc (dT hX7_figures 21 rfl) 2 rfl ?_
          refine gf_X7_60 (pc := 40) Xc (dT hX7_figures 22 rfl) hP11.o rfl ?_
          refine e_val (y := 0) rfl ?_
          refine e_if_ne (tgt := 97) (pc := 43) Xc (dT hX7_figures 23 rfl) rfl (fun c43 => ?_) (fun c43 => ?_)
          · skip
            exact absurd c43 (by decide)
          · skip
            refine e_aload_n (pc := 46) Xc (dT hX7_figures 24 rfl) 2 rfl ?_
            refine cl_X7_64 (pc := 47) (k := 0) (n := 0) (S := []) Xc hP11.o (c_here hP11 ⟨hp.1, hp.2.1, hp.2.2.1, hp.2.2.2.1, hp.2.2.2.2.1, hp.2.2.2.2.2.1, hp.2.2.2.2.2.2⟩ (true, p_) (by show _ ≤ nt; omega) ⟨hF.1, rfl⟩) (dT hX7_figures 25 rfl) rfl (Nat.le_of_ble_eq_true rfl) (Nat.le_of_ble_eq_true rfl) (Nat.le_of_ble_eq_true rfl) rfl (Nat.le_of_ble_eq_true rfl) (fun r13 σ14 hq15 => ?_)
            obtain ⟨r13e, r13s⟩ := hq15
            have r13e := r13e.symm; subst r13e; have r13s := r13s.symm; subst r13s
            refine e_val (y := H p_) rfl ?_
            refine e_bipush (v := 48) (pc := 50) Xc (dT hX7_figures 26 rfl) rfl ?_
            refine e_bipush (v := 57) (pc := 52) Xc (dT hX7_figures 27 rfl) rfl ?_
            refine cl_X7_50 (pc := 54) (k := 0) (n := 0) (S := []) Xc (c_in (H p_) 48 57) (dT hX7_figures 28 rfl) rfl (Nat.le_of_ble_eq_true rfl) (Nat.le_of_ble_eq_true rfl) (Nat.le_of_ble_eq_true rfl) rfl (Nat.le_of_ble_eq_true rfl) (fun r16 σ17 hq18 => ?_)
            obtain ⟨r16e, r16s⟩ := hq18
            have r16e := r16e.symm; subst r16e; have r16s := r16s.symm; subst r16s
            refine e_if_eq (tgt := 97) (pc := 57) Xc (dT hX7_figures 29 rfl) rfl (fun c57 => ?_) (fun c57 => ?_)
            · skip
              simp only [bI_0] at c57
              exact absurd (show dgP (H p_) = true from c19) (by rw [show dgP (H p_) = false from c57]; decide)
            · skip
              refine e_iload_n (pc := 60) Xc (dT hX7_figures 30 rfl) 0 rfl ?_
              refine e_if_eq (tgt := 68) (pc := 61) Xc (dT hX7_figures 31 rfl) rfl (fun c61 => ?_) (fun c61 => ?_)
              · skip
                refine e_bipush (v := 10) (pc := 68) Xc (dT hX7_figures 34 rfl) rfl ?_
                refine e_iload_n (pc := 70) Xc (dT hX7_figures 35 rfl) 1 rfl ?_
                refine e_imulN (a := 10) (b := 0) (pc := 71) Xc (dT hX7_figures 36 rfl) ?_
                refine e_val (y := 0) rfl ?_
                refine e_aload_n (pc := 72) Xc (dT hX7_figures 37 rfl) 2 rfl ?_
                refine cl_X7_64 (pc := 73) (k := 0) (n := 0) (S := [.int 0]) Xc hP11.o (c_here hP11 ⟨hp.1, hp.2.1, hp.2.2.1, hp.2.2.2.1, hp.2.2.2.2.1, hp.2.2.2.2.2.1, hp.2.2.2.2.2.2⟩ (true, p_) (by show _ ≤ nt; omega) ⟨hF.1, rfl⟩) (dT hX7_figures 38 rfl) rfl (Nat.le_of_ble_eq_true rfl) (Nat.le_of_ble_eq_true rfl) (Nat.le_of_ble_eq_true rfl) rfl (Nat.le_of_ble_eq_true rfl) (fun r19 σ20 hq21 => ?_)
                obtain ⟨r19e, r19s⟩ := hq21
                have r19e := r19e.symm; subst r19e; have r19s := r19s.symm; subst r19s
                refine e_val (y := H p_) rfl ?_
                refine e_val (y := nI c1_) he1_ ?_
                refine e_iaddN (a := 0) (b := c1_) (pc := 76) Xc (dT hX7_figures 39 rfl) ?_
                refine e_val (y := nI c1_) (congrArg nI (by omega)) ?_
                refine e_bipush (v := 48) (pc := 77) Xc (dT hX7_figures 40 rfl) rfl ?_
                refine e_isubN (a := c1_) (b := 48) (pc := 79) Xc (dT hX7_figures 41 rfl) (by omega) ?_
                refine e_istore_n (L' := [(1, .int (nI (c1_ - 48))), (2, .int 0), (0, .ref m)]) (pc := 80) Xc (dT hX7_figures 42 rfl) (by decide) rfl ?_
                refine e_aload_n (pc := 81) Xc (dT hX7_figures 43 rfl) 2 rfl ?_
                refine e_dup (pc := 82) Xc (dT hX7_figures 44 rfl) rfl ?_
                refine gf_X7_54 (pc := 83) Xc (dT hX7_figures 45 rfl) hP11.o rfl ?_
                refine e_val (y := F 6) rfl ?_
                refine e_val (y := nI p_) hF6_ ?_
                refine e_iconst (v := 1) (pc := 86) Xc (dT hX7_figures 46 rfl) rfl ?_
                refine e_iaddN (a := p_) (b := 1) (pc := 87) Xc (dT hX7_figures 47 rfl) ?_
                refine pf_X7_54 (fs' := olX7 m (upd (upd F 8 0) 6 (nI (p_ + 1))) T) (pc := 88) Xc (dT hX7_figures 48 rfl) hP11.o (Nat.le_of_ble_eq_true rfl) rfl ?_
                refine Ev.gen (fun z => PX7 z m (upd (upd F 8 0) 6 (nI (p_ + 1))) T A) (hP11.wf6 (x := nI (p_ + 1))) Off.set (fun σ22 hP23 ho24 => ?_)
                refine e_iincN (a := 0) (b := 1) (L' := [(2, .int 1), (1, .int (nI (c1_ - 48))), (0, .ref m)]) (pc := 91) Xc (dT hX7_figures 49 rfl) 1 rfl rfl (by decide) rfl ?_
                refine e_goto (tgt := 34) (pc := 94) Xc (dT hX7_figures 50 rfl) rfl ?_
                refine e_iload_n (pc := 34) Xc (dT hX7_figures 18 rfl) 0 rfl ?_
                refine e_iconst (v := 2) (pc := 35) Xc (dT hX7_figures 19 rfl) rfl ?_
                refine e_icmp_geN (x := 1) (y := 2) (tgt := 97) (pc := 36) Xc (dT hX7_figures 20 rfl) rfl (by omega) (by omega) (fun c36 => ?_) (fun c36 => ?_)
                · skip
                  exact absurd c36 (by decide)
                · skip
                  refine e_aload_n (pc := 39) Xc (dT hX7_figures 21 rfl) 2 rfl ?_
                  refine gf_X7_60 (pc := 40) Xc (dT hX7_figures 22 rfl) hP23.o rfl ?_
                  refine e_val (y := 0) rfl ?_
                  refine e_if_ne (tgt := 97) (pc := 43) Xc (dT hX7_figures 23 rfl) rfl (fun c43 => ?_) (fun c43 => ?_)
                  · skip
                    exact absurd c43 (by decide)
                  · skip
                    refine e_aload_n (pc := 46) Xc (dT hX7_figures 24 rfl) 2 rfl ?_
                    refine cl_X7_64 (pc := 47) (k := 0) (n := 0) (S := []) Xc hP23.o (c_here hP23 ⟨hp.1, hp.2.1, hp.2.2.1, hp.2.2.2.1, hp.2.2.2.2.1, hp.2.2.2.2.2.1, hp.2.2.2.2.2.2⟩ (true, p_ + 1) (by show _ ≤ nt; omega) ⟨rfl, rfl⟩) (dT hX7_figures 25 rfl) rfl (Nat.le_of_ble_eq_true rfl) (Nat.le_of_ble_eq_true rfl) (Nat.le_of_ble_eq_true rfl) rfl (Nat.le_of_ble_eq_true rfl) (fun r25 σ26 hq27 => ?_)
                    obtain ⟨r25e, r25s⟩ := hq27
                    have r25e := r25e.symm; subst r25e; have r25s := r25s.symm; subst r25s
                    refine e_val (y := H (p_ + 1)) rfl ?_
                    refine e_bipush (v := 48) (pc := 50) Xc (dT hX7_figures 26 rfl) rfl ?_
                    refine e_bipush (v := 57) (pc := 52) Xc (dT hX7_figures 27 rfl) rfl ?_
                    refine cl_X7_50 (pc := 54) (k := 0) (n := 0) (S := []) Xc (c_in (H (p_ + 1)) 48 57) (dT hX7_figures 28 rfl) rfl (Nat.le_of_ble_eq_true rfl) (Nat.le_of_ble_eq_true rfl) (Nat.le_of_ble_eq_true rfl) rfl (Nat.le_of_ble_eq_true rfl) (fun r28 σ29 hq30 => ?_)
                    obtain ⟨r28e, r28s⟩ := hq30
                    have r28e := r28e.symm; subst r28e; have r28s := r28s.symm; subst r28s
                    refine e_if_eq (tgt := 97) (pc := 57) Xc (dT hX7_figures 29 rfl) rfl (fun c57 => ?_) (fun c57 => ?_)
                    · skip
                      simp only [bI_0, Bool.not_eq_false] at c57
                      have hd2_ : ¬ dgP (H (p_ + 1)) = true := by rw [show dgP (H (p_ + 1)) = false from c57]; decide
                      refine e_iload_n (pc := 97) Xc (dT hX7_figures 51 rfl) 1 rfl ?_
                      refine e_iret (pc := 98) Xc hQ (dT hX7_figures 52 rfl) (Nat.le_refl _) (Nat.le_refl _) ?_
                      rw [show figP H (true, p_) = ((true, p_ + 1), c1_ - 48) from fig_1 hd1_ he1_ hc48_ hc57_ (Or.inr hd2_), show fP F (true, p_ + 1) = (upd (upd F 8 0) 6 (nI (p_ + 1))) from (by funext j_; simp only [fP, upd]; repeat' split <;> simp_all [bI])]
                      exact ⟨congrArg nI (by omega), hP23, (ho12.tr ho24)⟩
                    · skip
                      simp only [bI_0, Bool.not_eq_false] at c57
                      have hd2_ : dgP (H (p_ + 1)) = true := c57
                      obtain ⟨c2_, hd48_, hd57_, he2_⟩ := dg_nat hd2_
                      refine e_iload_n (pc := 60) Xc (dT hX7_figures 30 rfl) 0 rfl ?_
                      refine e_if_eq (tgt := 68) (pc := 61) Xc (dT hX7_figures 31 rfl) rfl (fun c61 => ?_) (fun c61 => ?_)
                      · skip
                        exact absurd c61 (by decide)
                      · skip
                        refine e_iload_n (pc := 64) Xc (dT hX7_figures 32 rfl) 1 rfl ?_
                        refine e_if_le (tgt := 97) (pc := 65) Xc (dT hX7_figures 33 rfl) rfl (fun c65 => ?_) (fun c65 => ?_)
                        · skip
                          have hz48_ : c1_ = 48 := by
                            rcases Nat.lt_or_ge 48 c1_ with q | q
                            · exact absurd c65 (nI_nle (by omega) (by omega))
                            · omega
                          refine e_iload_n (pc := 97) Xc (dT hX7_figures 51 rfl) 1 rfl ?_
                          refine e_iret (pc := 98) Xc hQ (dT hX7_figures 52 rfl) (Nat.le_refl _) (Nat.le_refl _) ?_
                          rw [show figP H (true, p_) = ((true, p_ + 1), c1_ - 48) from fig_1 hd1_ he1_ hc48_ hc57_ (Or.inl hz48_), show fP F (true, p_ + 1) = (upd (upd F 8 0) 6 (nI (p_ + 1))) from (by funext j_; simp only [fP, upd]; repeat' split <;> simp_all [bI])]
                          exact ⟨congrArg nI (by omega), hP23, (ho12.tr ho24)⟩
                        · skip
                          have hz48_ : ¬ c1_ = 48 := fun q => c65 (by rw [q]; decide)
                          refine e_bipush (v := 10) (pc := 68) Xc (dT hX7_figures 34 rfl) rfl ?_
                          refine e_iload_n (pc := 70) Xc (dT hX7_figures 35 rfl) 1 rfl ?_
                          refine e_imulN (a := 10) (b := c1_ - 48) (pc := 71) Xc (dT hX7_figures 36 rfl) ?_
                          refine e_aload_n (pc := 72) Xc (dT hX7_figures 37 rfl) 2 rfl ?_
                          refine cl_X7_64 (pc := 73) (k := 0) (n := 0) (S := [.int (nI (10 * (c1_ - 48)))]) Xc hP23.o (c_here hP23 ⟨hp.1, hp.2.1, hp.2.2.1, hp.2.2.2.1, hp.2.2.2.2.1, hp.2.2.2.2.2.1, hp.2.2.2.2.2.2⟩ (true, p_ + 1) (by show _ ≤ nt; omega) ⟨rfl, rfl⟩) (dT hX7_figures 38 rfl) rfl (Nat.le_of_ble_eq_true rfl) (Nat.le_of_ble_eq_true rfl) (Nat.le_of_ble_eq_true rfl) rfl (Nat.le_of_ble_eq_true rfl) (fun r31 σ32 hq33 => ?_)
                          obtain ⟨r31e, r31s⟩ := hq33
                          have r31e := r31e.symm; subst r31e; have r31s := r31s.symm; subst r31s
                          refine e_val (y := H (p_ + 1)) rfl ?_
                          refine e_val (y := nI c2_) he2_ ?_
                          refine e_iaddN (a := 10 * (c1_ - 48)) (b := c2_) (pc := 76) Xc (dT hX7_figures 39 rfl) ?_
                          refine e_bipush (v := 48) (pc := 77) Xc (dT hX7_figures 40 rfl) rfl ?_
                          refine e_isubN (a := (10 * (c1_ - 48)) + c2_) (b := 48) (pc := 79) Xc (dT hX7_figures 41 rfl) (by omega) ?_
                          refine e_istore_n (L' := [(1, .int (nI (((10 * (c1_ - 48)) + c2_) - 48))), (2, .int 1), (0, .ref m)]) (pc := 80) Xc (dT hX7_figures 42 rfl) (by decide) rfl ?_
                          refine e_aload_n (pc := 81) Xc (dT hX7_figures 43 rfl) 2 rfl ?_
                          refine e_dup (pc := 82) Xc (dT hX7_figures 44 rfl) rfl ?_
                          refine gf_X7_54 (pc := 83) Xc (dT hX7_figures 45 rfl) hP23.o rfl ?_
                          refine e_val (y := nI (p_ + 1)) rfl ?_
                          refine e_iconst (v := 1) (pc := 86) Xc (dT hX7_figures 46 rfl) rfl ?_
                          refine e_iaddN (a := p_ + 1) (b := 1) (pc := 87) Xc (dT hX7_figures 47 rfl) ?_
                          refine pf_X7_54 (fs' := olX7 m (upd (upd (upd F 8 0) 6 (nI (p_ + 1))) 6 (nI ((p_ + 1) + 1))) T) (pc := 88) Xc (dT hX7_figures 48 rfl) hP23.o (Nat.le_of_ble_eq_true rfl) rfl ?_
                          refine Ev.gen (fun z => PX7 z m (upd (upd (upd F 8 0) 6 (nI (p_ + 1))) 6 (nI ((p_ + 1) + 1))) T A) (hP23.wf6 (x := nI ((p_ + 1) + 1))) Off.set (fun σ34 hP35 ho36 => ?_)
                          refine e_iincN (a := 1) (b := 1) (L' := [(2, .int 2), (1, .int (nI (((10 * (c1_ - 48)) + c2_) - 48))), (0, .ref m)]) (pc := 91) Xc (dT hX7_figures 49 rfl) 1 rfl rfl (by decide) rfl ?_
                          refine e_goto (tgt := 34) (pc := 94) Xc (dT hX7_figures 50 rfl) rfl ?_
                          refine e_iload_n (pc := 34) Xc (dT hX7_figures 18 rfl) 0 rfl ?_
                          refine e_iconst (v := 2) (pc := 35) Xc (dT hX7_figures 19 rfl) rfl ?_
                          refine e_icmp_geN (x := 2) (y := 2) (tgt := 97) (pc := 36) Xc (dT hX7_figures 20 rfl) rfl (by omega) (by omega) (fun c36 => ?_) (fun c36 => ?_)
                          · skip
                            refine e_iload_n (pc := 97) Xc (dT hX7_figures 51 rfl) 1 rfl ?_
                            refine e_iret (pc := 98) Xc hQ (dT hX7_figures 52 rfl) (Nat.le_refl _) (Nat.le_refl _) ?_
                            rw [show figP H (true, p_) = ((true, p_ + 2), 10 * (c1_ - 48) + (c2_ - 48)) from fig_2 hd1_ he1_ hz48_ hc48_ hc57_ hd2_ he2_ hd57_, show fP F (true, p_ + 2) = (upd (upd (upd F 8 0) 6 (nI (p_ + 1))) 6 (nI ((p_ + 1) + 1))) from (by funext j_; simp only [fP, upd]; repeat' split <;> simp_all [bI])]
                            exact ⟨congrArg nI (by omega), hP35, ((ho12.tr ho24).tr ho36)⟩
                          · skip
                            exact absurd c36 (by decide)
              · skip
                exact absurd c61 (by decide)
      · skip
        simp only [bI_0, Bool.not_eq_true, Bool.not_eq_false] at c19
        have hd1_ : ¬ dgP (H p_) = true := by rw [show dgP (H p_) = false from c19]; decide
        refine e_iconst (v := 1) (pc := 22) Xc (dT hX7_figures 10 rfl) rfl ?_
        refine e_goto (tgt := 27) (pc := 23) Xc (dT hX7_figures 11 rfl) rfl ?_
        refine pf_X7_60 (fs' := olX7 m (upd F 8 1) T) (pc := 27) Xc (dT hX7_figures 13 rfl) (Or.inr rfl) hP.o (Nat.le_of_ble_eq_true rfl) rfl ?_
        refine Ev.gen (fun z => PX7 z m (upd F 8 1) T A) (hP.wf8 (x := 1)) Off.set (fun σ37 hP38 ho39 => ?_)
        refine e_iconst (v := 0) (pc := 30) Xc (dT hX7_figures 14 rfl) rfl ?_
        refine e_istore_n (L' := [(1, .int 0), (0, .ref m)]) (pc := 31) Xc (dT hX7_figures 15 rfl) (by decide) rfl ?_
        refine e_iconst (v := 0) (pc := 32) Xc (dT hX7_figures 16 rfl) rfl ?_
        refine e_istore_n (L' := [(2, .int 0), (1, .int 0), (0, .ref m)]) (pc := 33) Xc (dT hX7_figures 17 rfl) (by decide) rfl ?_
        refine e_iload_n (pc := 34) Xc (dT hX7_figures 18 rfl) 0 rfl ?_
        refine e_iconst (v := 2) (pc := 35) Xc (dT hX7_figures 19 rfl) rfl ?_
        refine e_icmp_geN (x := 0) (y := 2) (tgt := 97) (pc := 36) Xc (dT hX7_figures 20 rfl) rfl (by omega) (by omega) (fun c36 => ?_) (fun c36 => ?_)
        · skip
          exact absurd c36 (by decide)
        · skip
          refine e_aload_n (pc := 39) Xc (dT hX7_figures 21 rfl) 2 rfl ?_
          refine gf_X7_60 (pc := 40) Xc (dT hX7_figures 22 rfl) hP38.o rfl ?_
          refine e_val (y := 1) rfl ?_
          refine e_if_ne (tgt := 97) (pc := 43) Xc (dT hX7_figures 23 rfl) rfl (fun c43 => ?_) (fun c43 => ?_)
          · skip
            refine e_iload_n (pc := 97) Xc (dT hX7_figures 51 rfl) 1 rfl ?_
            refine e_iret (pc := 98) Xc hQ (dT hX7_figures 52 rfl) (Nat.le_refl _) (Nat.le_refl _) ?_
            rw [show figP H (true, p_) = ((false, p_), 0) from fig_n hd1_, show fP F (false, p_) = (upd F 8 1) from (by funext j_; simp only [fP, upd]; repeat' split <;> simp_all [bI])]
            exact ⟨rfl, hP38, ho39⟩
          · skip
            exact absurd c43 (by decide)
set_option maxRecDepth 100000 in
set_option maxHeartbeats 4000000 in
theorem c_among {G : xG} {σ : xS} {m : Nat} {F : Nat → Int32} {T : Nat → Nat} {A : Nat → Nat → Int32} (hP : PX7 σ m F T A) {H : Nat → Int32} {nt a n0 : Nat} (hp : PH (A 1) F H nt a n0) (p : Nat) (hs : p ≤ nt) (hF : F 6 = nI p ∧ F 8 = 0) (i : Nat) (hi : i < 10) : CI G yX7_among cX7_among 3 (some .int) 4 0 0 [.ref m, .ref (gK G i)] σ (fun z σ1 => (∃ k, amoP i (H p) = some k ∧ z = nI k ∧ PX7 σ1 m (upd F 6 (nI (p + 1))) T A ∧ Off m σ σ1) ∨ (amoP i (H p) = none ∧ z = -1 ∧ σ1 = σ)) := by
  refine Met.ofX (by decide +kernel) (Nat.le_of_ble_eq_true rfl) (fun μ Xc hQ hnm => ?_)
  have Xc : xC G μ cX7_among 3 RX7 (some .int) 4 0 0 := Xc
  have hnt_ := hp.1
  have ha5_ := hp.2.1
  have hl6_ := s_len i hi
  have lp2 : ∀ (n2 : Nat) (k_ : Nat), (sByt i).length - k_ < n2 → (k_ ≤ (sByt i).length) → (fst (fun k => (sByt i).getD k 0 == H p) k_ = none) → Ev G μ 3 0 0 2 [(0, .ref m), (1, .ref (gK G i)), (2, .int (nI k_))] [] σ := by
    intro n2
    induction n2 with
    | zero => intro k_ hn; exact absurd hn (Nat.not_lt_zero _)
    | succ n2 ih2 =>
      intro k_ hn2 hk_ hm_
      refine e_iload_n (pc := 2) Xc (dT hX7_among 2 rfl) 2 rfl ?_
      refine e_aload_n (pc := 3) Xc (dT hX7_among 3 rfl) 1 rfl ?_
      refine e_callStI (pc := 4) (k := 0) (n := 0) (As := []) (S := [.int (nI k_)]) Xc m_J0_length_8abf5 w_ml_X7_68 w_inst_J0_length_8abf5 w_sel_J0_length_8abf5 hi rfl (c_length (i := i) hi) (dT hX7_among 4 rfl) rfl (Nat.le_of_ble_eq_true rfl) (by decide) (Nat.le_of_ble_eq_true rfl) (Nat.le_of_ble_eq_true rfl) rfl (Nat.le_of_ble_eq_true rfl) (fun r1 σ2 hq3 => ?_)
      obtain ⟨r1e, r1s⟩ := hq3
      have r1e := r1e.symm; subst r1e; have r1s := r1s.symm; subst r1s
      refine e_icmp_geN (x := k_) (y := (sByt i).length) (tgt := 40) (pc := 7) Xc (dT hX7_among 5 rfl) rfl (by omega) (by omega) (fun c7 => ?_) (fun c7 => ?_)
      · skip
        refine e_iconst (v := -1) (pc := 40) Xc (dT hX7_among 22 rfl) rfl ?_
        refine e_iret (pc := 41) Xc hQ (dT hX7_among 23 rfl) (Nat.le_refl _) (Nat.le_refl _) ?_
        have hke_ : k_ = (sByt i).length := by omega
        subst hke_
        exact Or.inr ⟨hm_, rfl, rfl⟩
      · skip
        refine e_aload_n (pc := 10) Xc (dT hX7_among 6 rfl) 0 rfl ?_
        refine cl_X7_64 (pc := 11) (k := 0) (n := 0) (S := []) Xc hP.o (c_here hP hp (true, p) hs hF) (dT hX7_among 7 rfl) rfl (Nat.le_of_ble_eq_true rfl) (Nat.le_of_ble_eq_true rfl) (Nat.le_of_ble_eq_true rfl) rfl (Nat.le_of_ble_eq_true rfl) (fun r4 σ5 hq6 => ?_)
        obtain ⟨r4e, r4s⟩ := hq6
        have r4e := r4e.symm; subst r4e; have r4s := r4s.symm; subst r4s
        refine e_val (y := H p) rfl ?_
        refine e_aload_n (pc := 14) Xc (dT hX7_among 8 rfl) 1 rfl ?_
        refine e_iload_n (pc := 15) Xc (dT hX7_among 9 rfl) 2 rfl ?_
        refine e_callStI (pc := 16) (k := 0) (n := 0) (As := [.int (nI k_)]) (S := [.int (H p)]) Xc m_J0_charAt_5068e w_ml_X7_73 w_inst_J0_charAt_5068e w_sel_J0_charAt_5068e hi rfl (c_charAt (i := i) (j := k_) hi (by omega)) (dT hX7_among 10 rfl) rfl (Nat.le_of_ble_eq_true rfl) (by decide) (Nat.le_of_ble_eq_true rfl) (Nat.le_of_ble_eq_true rfl) rfl (Nat.le_of_ble_eq_true rfl) (fun r7 σ8 hq9 => ?_)
        obtain ⟨r7e, r7s⟩ := hq9
        have r7e := r7e.symm; subst r7e; have r7s := r7s.symm; subst r7s
        refine e_icmp_ne (tgt := 34) (pc := 19) Xc (dT hX7_among 11 rfl) rfl (fun c19 => ?_) (fun c19 => ?_)
        · skip
          refine e_iincN (a := k_) (b := 1) (L' := [(2, .int (nI (k_ + 1))), (0, .ref m), (1, .ref (gK G i))]) (pc := 34) Xc (dT hX7_among 20 rfl) 2 rfl rfl (by decide) rfl ?_
          refine e_goto (tgt := 2) (pc := 37) Xc (dT hX7_among 21 rfl) rfl ?_
          refine Ev.pick (L' := [(0, .ref m), (1, .ref (gK G i)), (2, .int (nI (k_ + 1)))]) [1, 2, 0] rfl ?_
          exact ih2 (k_ + 1) (by omega) (by omega) (fst_none.mpr (fun j hj => by rcases Nat.lt_or_eq_of_le (Nat.le_of_lt_succ hj) with q | q; exact fst_none.mp hm_ j q; subst q; exact beq_eq_false_iff_ne.mpr (Ne.symm c19)))
        · skip
          refine e_aload_n (pc := 22) Xc (dT hX7_among 12 rfl) 0 rfl ?_
          refine e_dup (pc := 23) Xc (dT hX7_among 13 rfl) rfl ?_
          refine gf_X7_54 (pc := 24) Xc (dT hX7_among 14 rfl) hP.o rfl ?_
          refine e_val (y := nI p) hF.1 ?_
          refine e_iconst (v := 1) (pc := 27) Xc (dT hX7_among 15 rfl) rfl ?_
          refine e_iaddN (a := p) (b := 1) (pc := 28) Xc (dT hX7_among 16 rfl) ?_
          refine pf_X7_54 (fs' := olX7 m (upd F 6 (nI (p + 1))) T) (pc := 29) Xc (dT hX7_among 17 rfl) hP.o (Nat.le_of_ble_eq_true rfl) rfl ?_
          refine Ev.gen (fun z => PX7 z m (upd F 6 (nI (p + 1))) T A) (hP.wf6 (x := nI (p + 1))) Off.set (fun σ10 hP11 ho12 => ?_)
          refine e_iload_n (pc := 32) Xc (dT hX7_among 18 rfl) 2 rfl ?_
          refine e_iret (pc := 33) Xc hQ (dT hX7_among 19 rfl) (Nat.le_refl _) (Nat.le_refl _) ?_
          exact Or.inl ⟨k_, fst_some.mpr ⟨by omega, by rw [c19]; exact beq_self_eq_true _, fst_none.mp hm_⟩, rfl, hP11, ho12⟩
  show Ev G μ 3 0 0 0 [(0, .ref m), (1, .ref (gK G i))] [] σ
  refine e_iconst (v := 0) (pc := 0) Xc (dT hX7_among 0 rfl) rfl ?_
  refine e_istore_n (L' := [(2, .int 0), (0, .ref m), (1, .ref (gK G i))]) (pc := 1) Xc (dT hX7_among 1 rfl) (by decide) rfl ?_
  refine Ev.pick (L' := [(0, .ref m), (1, .ref (gK G i)), (2, .int 0)]) [1, 2, 0] rfl ?_
  exact lp2 (((sByt i).length - 0) + 1) 0 (Nat.lt_succ_self _) (Nat.zero_le _) rfl
set_option maxRecDepth 100000 in
set_option maxHeartbeats 4000000 in
theorem c_emits {G : xG} {σ : xS} {m : Nat} {F : Nat → Int32} {T : Nat → Nat} {A : Nat → Nat → Int32} (hP : PX7 σ m F T A) {H : Nat → Int32} {nt a n0 : Nat} (hp : PH (A 1) F H nt a n0) (s : Bool × Nat) (hs : s.2 ≤ nt) (hF : F 6 = nI s.2 ∧ F 8 = bI (!s.1)) (hn0 : n0 < 140) (e : Int32) : CV G yX7_emits cX7_emits 2 none 0 0 0 [.ref m, .int e] σ (fun σ1 => PX7 σ1 m F T (upA A 1 (wrL a (A 1) (if s.1 = true then [e] else []))) ∧ Off m σ σ1) := by
  refine Met.ofX (by decide +kernel) (Nat.le_of_ble_eq_true rfl) (fun μ Xc hQ hnm => ?_)
  have Xc : xC G μ cX7_emits 2 RX7 none 0 0 0 := Xc
  have hnt_ := hp.1
  have ha5_ := hp.2.1
  show Ev G μ 2 0 0 0 [(0, .ref m), (1, .int e)] [] σ
  rcases s with ⟨_ | _, p_⟩
  · skip
    have hF6_ : F 6 = nI p_ := hF.1
    have hF8_ : F 8 = 1 := hF.2
    have hs_ : p_ ≤ nt := hs
    refine e_aload_n (pc := 0) Xc (dT hX7_emits 0 rfl) 0 rfl ?_
    refine gf_X7_60 (pc := 1) Xc (dT hX7_emits 1 rfl) hP.o rfl ?_
    refine e_val (y := 1) hF8_ ?_
    refine e_if_ne (tgt := 56) (pc := 4) Xc (dT hX7_emits 2 rfl) rfl (fun c4 => ?_) (fun c4 => ?_)
    · skip
      refine e_vret (pc := 56) Xc hQ (dT hX7_emits 32 rfl) (Nat.le_refl _) (Nat.le_refl _) ?_
      refine ⟨?_, Off.rf⟩
      show PX7 _ m F T (upA A 1 (A 1))
      rw [upA_id]
      exact hP
    · skip
      exact absurd c4 (by decide)
  · skip
    have hF6_ : F 6 = nI p_ := hF.1
    have hF8_ : F 8 = 0 := hF.2
    have hs_ : p_ ≤ nt := hs
    refine e_aload_n (pc := 0) Xc (dT hX7_emits 0 rfl) 0 rfl ?_
    refine gf_X7_60 (pc := 1) Xc (dT hX7_emits 1 rfl) hP.o rfl ?_
    refine e_val (y := 0) hF8_ ?_
    refine e_if_ne (tgt := 56) (pc := 4) Xc (dT hX7_emits 2 rfl) rfl (fun c4 => ?_) (fun c4 => ?_)
    · skip
      exact absurd c4 (by decide)
    · skip
      refine e_aload_n (pc := 7) Xc (dT hX7_emits 3 rfl) 0 rfl ?_
      refine gf_X7_9 (pc := 8) Xc (dT hX7_emits 4 rfl) hP.o rfl ?_
      refine e_sipush (v := 209) (pc := 11) Xc (dT hX7_emits 5 rfl) rfl ?_
      refine e_sipush (v := 140) (pc := 14) Xc (dT hX7_emits 6 rfl) rfl ?_
      refine e_aload_n (pc := 17) Xc (dT hX7_emits 7 rfl) 0 rfl ?_
      refine gf_X7_81 (pc := 18) Xc (dT hX7_emits 8 rfl) hP.o rfl ?_
      refine e_val (y := nI a) hp.2.2.2.2.2.1 ?_
      refine e_imulN (a := 140) (b := a) (pc := 21) Xc (dT hX7_emits 9 rfl) ?_
      refine e_iaddN (a := 209) (b := 140 * a) (pc := 22) Xc (dT hX7_emits 10 rfl) ?_
      refine e_aload_n (pc := 23) Xc (dT hX7_emits 11 rfl) 0 rfl ?_
      refine gf_X7_9 (pc := 24) Xc (dT hX7_emits 12 rfl) hP.o rfl ?_
      refine e_sipush (v := 204) (pc := 27) Xc (dT hX7_emits 13 rfl) rfl ?_
      refine e_aload_n (pc := 30) Xc (dT hX7_emits 14 rfl) 0 rfl ?_
      refine gf_X7_81 (pc := 31) Xc (dT hX7_emits 15 rfl) hP.o rfl ?_
      refine e_val (y := nI a) hp.2.2.2.2.2.1 ?_
      refine e_iaddN (a := 204) (b := a) (pc := 34) Xc (dT hX7_emits 16 rfl) ?_
      refine e_ialdN (pc := 35) Xc (dT hX7_emits 17 rfl) hP.a1 (by decide) rfl (204 + a) rfl (by omega) (by decide) ?_
      refine e_val (y := nI n0) hp.2.2.2.2.2.2 ?_
      refine e_iaddN (a := 209 + (140 * a)) (b := n0) (pc := 36) Xc (dT hX7_emits 18 rfl) ?_
      refine e_iload_n (pc := 37) Xc (dT hX7_emits 19 rfl) 1 rfl ?_
      refine e_iastN (pc := 38) Xc (dT hX7_emits 20 rfl) hP.a1 rfl ((209 + (140 * a)) + n0) rfl (by omega) (by decide) ?_
      refine Ev.gen (fun z => PX7 z m F T (upA A 1 (upd (A 1) ((209 + (140 * a)) + n0) e))) (hP.wa1 (g := (upd (A 1) ((209 + (140 * a)) + n0) e))) Off.set (fun σ1 hP2 ho3 => ?_)
      refine e_aload_n (pc := 39) Xc (dT hX7_emits 21 rfl) 0 rfl ?_
      refine gf_X7_9 (pc := 40) Xc (dT hX7_emits 22 rfl) hP2.o rfl ?_
      refine e_sipush (v := 204) (pc := 43) Xc (dT hX7_emits 23 rfl) rfl ?_
      refine e_aload_n (pc := 46) Xc (dT hX7_emits 24 rfl) 0 rfl ?_
      refine gf_X7_81 (pc := 47) Xc (dT hX7_emits 25 rfl) hP2.o rfl ?_
      refine e_val (y := nI a) hp.2.2.2.2.2.1 ?_
      refine e_iaddN (a := 204) (b := a) (pc := 50) Xc (dT hX7_emits 26 rfl) ?_
      refine e_dup2 (pc := 51) Xc (dT hX7_emits 27 rfl) rfl rfl ?_
      refine e_ialdN (pc := 52) Xc (dT hX7_emits 28 rfl) hP2.a1 (by decide) rfl (204 + a) rfl (by omega) (by decide) ?_
      refine e_val (y := (upd (A 1) ((209 + (140 * a)) + n0) e) (204 + a)) rfl ?_
      refine e_val (y := A 1 (204 + a)) (upd_n (by omega)) ?_
      refine e_val (y := nI n0) hp.2.2.2.2.2.2 ?_
      refine e_iconst (v := 1) (pc := 53) Xc (dT hX7_emits 29 rfl) rfl ?_
      refine e_iaddN (a := n0) (b := 1) (pc := 54) Xc (dT hX7_emits 30 rfl) ?_
      refine e_iastN (pc := 55) Xc (dT hX7_emits 31 rfl) hP2.a1 rfl (204 + a) rfl (by omega) (by decide) ?_
      refine Ev.gen (fun z => PX7 z m F T (upA (upA A 1 (upd (A 1) ((209 + (140 * a)) + n0) e)) 1 (upd (upd (A 1) ((209 + (140 * a)) + n0) e) (204 + a) (nI (n0 + 1))))) (hP2.wa1 (g := (upd (upd (A 1) ((209 + (140 * a)) + n0) e) (204 + a) (nI (n0 + 1))))) Off.set (fun σ4 hP5 ho6 => ?_)
      refine e_vret (pc := 56) Xc hQ (dT hX7_emits 32 rfl) (Nat.le_refl _) (Nat.le_refl _) ?_
      refine ⟨?_, (ho3.tr ho6)⟩
      show PX7 _ m F T (upA A 1 (wr1 a (A 1) e))
      rw [wr1, hp.2.2.2.2.2.2, cl_nI (by omega), nI_1]
      exact hP5
set_option maxRecDepth 100000 in
set_option maxHeartbeats 4000000 in
theorem c_factorW {G : xG} {σ : xS} {m : Nat} {F : Nat → Int32} {T : Nat → Nat} {A : Nat → Nat → Int32} (hP : PX7 σ m F T A) (h8 : F 8 = 1) : CV G yX7_factor cX7_factor 5 none 0 0 0 [.ref m] σ (fun σ1 => σ1 = σ) := by
  refine Met.ofX (by decide +kernel) (Nat.le_of_ble_eq_true rfl) (fun μ Xc hQ hnm => ?_)
  have Xc : xC G μ cX7_factor 5 RX7 none 0 0 0 := Xc
  show Ev G μ 5 0 0 0 [(0, .ref m)] [] σ
  refine e_aload_n (pc := 0) Xc (dT hX7_factor 0 rfl) 0 rfl ?_
  refine gf_X7_60 (pc := 1) Xc (dT hX7_factor 1 rfl) hP.o rfl ?_
  refine e_val (y := 1) h8 ?_
  refine e_if_eq (tgt := 8) (pc := 4) Xc (dT hX7_factor 2 rfl) rfl (fun c4 => ?_) (fun c4 => ?_)
  · skip
    exact absurd c4 (by decide)
  · skip
    refine e_vret (pc := 7) Xc hQ (dT hX7_factor 3 rfl) (Nat.le_refl _) (Nat.le_refl _) ?_
    exact rfl
set_option maxRecDepth 100000 in
set_option maxHeartbeats 4000000 in
theorem c_everyW {G : xG} {σ : xS} {m : Nat} {F : Nat → Int32} {T : Nat → Nat} {A : Nat → Nat → Int32} (hP : PX7 σ m F T A) (h8 : F 8 = 1) : CV G yX7_every cX7_every 1 none 1 0 0 [.ref m] σ (fun σ1 => σ1 = σ) := by
  refine Met.ofX (by decide +kernel) (Nat.le_of_ble_eq_true rfl) (fun μ Xc hQ hnm => ?_)
  have Xc : xC G μ cX7_every 1 RX7 none 1 0 0 := Xc
  show Ev G μ 1 0 0 0 [(0, .ref m)] [] σ
  refine e_aload_n (pc := 0) Xc (dT hX7_every 0 rfl) 0 rfl ?_
  refine cl_X7_87 (pc := 1) (k := 0) (n := 0) (S := []) Xc hP.o (c_factorW hP h8) (dT hX7_every 1 rfl) rfl (Nat.le_of_ble_eq_true rfl) (Nat.le_of_ble_eq_true rfl) (Nat.le_of_ble_eq_true rfl) rfl (Nat.le_of_ble_eq_true rfl) (fun σ2 hq3 => ?_)
  have hq3 := hq3.symm; subst hq3
  refine e_aload_n (pc := 4) Xc (dT hX7_every 2 rfl) 0 rfl ?_
  refine gf_X7_60 (pc := 5) Xc (dT hX7_every 3 rfl) hP.o rfl ?_
  refine e_val (y := 1) h8 ?_
  refine e_if_ne (tgt := 43) (pc := 8) Xc (dT hX7_every 4 rfl) rfl (fun c8 => ?_) (fun c8 => ?_)
  · skip
    refine e_vret (pc := 43) Xc hQ (dT hX7_every 21 rfl) (Nat.le_refl _) (Nat.le_refl _) ?_
    exact rfl
  · skip
    exact absurd c8 (by decide)
set_option maxRecDepth 100000 in
set_option maxHeartbeats 4000000 in
theorem c_someW {G : xG} {σ : xS} {m : Nat} {F : Nat → Int32} {T : Nat → Nat} {A : Nat → Nat → Int32} (hP : PX7 σ m F T A) (h8 : F 8 = 1) : CV G yX7_some cX7_some 1 none 2 0 0 [.ref m] σ (fun σ1 => σ1 = σ) := by
  refine Met.ofX (by decide +kernel) (Nat.le_of_ble_eq_true rfl) (fun μ Xc hQ hnm => ?_)
  have Xc : xC G μ cX7_some 1 RX7 none 2 0 0 := Xc
  show Ev G μ 1 0 0 0 [(0, .ref m)] [] σ
  refine e_aload_n (pc := 0) Xc (dT hX7_some 0 rfl) 0 rfl ?_
  refine cl_X7_107 (pc := 1) (k := 0) (n := 0) (S := []) Xc hP.o (c_everyW hP h8) (dT hX7_some 1 rfl) rfl (Nat.le_of_ble_eq_true rfl) (Nat.le_of_ble_eq_true rfl) (Nat.le_of_ble_eq_true rfl) rfl (Nat.le_of_ble_eq_true rfl) (fun σ2 hq3 => ?_)
  have hq3 := hq3.symm; subst hq3
  refine e_aload_n (pc := 4) Xc (dT hX7_some 2 rfl) 0 rfl ?_
  refine gf_X7_60 (pc := 5) Xc (dT hX7_some 3 rfl) hP.o rfl ?_
  refine e_val (y := 1) h8 ?_
  refine e_if_ne (tgt := 43) (pc := 8) Xc (dT hX7_some 4 rfl) rfl (fun c8 => ?_) (fun c8 => ?_)
  · skip
    refine e_vret (pc := 43) Xc hQ (dT hX7_some 21 rfl) (Nat.le_refl _) (Nat.le_refl _) ?_
    exact rfl
  · skip
    exact absurd c8 (by decide)
set_option maxRecDepth 100000 in
set_option maxHeartbeats 4000000 in
theorem c_factor0 {G : xG} {σ : xS} {m : Nat} {F : Nat → Int32} {T : Nat → Nat} {A : Nat → Nat → Int32} (hP : PX7 σ m F T A) {H : Nat → Int32} {nt a n0 : Nat} (hp : PH (A 1) F H nt a n0) (s : Bool × Nat) (hs : s.2 ≤ nt) (hF : F 6 = nI s.2 ∧ F 8 = bI (!s.1)) (hn : n0 ≤ s.2) (h9 : F 9 = 5) : CV G yX7_factor cX7_factor 5 none 5 0 0 [.ref m] σ (fun σ1 => pP σ1 m F T A a (gFa H 0 s) ∧ Off m σ σ1) := by
  refine Met.ofX (by decide +kernel) (Nat.le_of_ble_eq_true rfl) (fun μ Xc hQ hnm => ?_)
  have Xc : xC G μ cX7_factor 5 RX7 none 5 0 0 := Xc
  have hnt_ := hp.1
  have ha5_ := hp.2.1
  show Ev G μ 5 0 0 0 [(0, .ref m)] [] σ
  rcases s with ⟨_ | _, p_⟩
  · skip
    have hF6_ : F 6 = nI p_ := hF.1
    have hF8_ : F 8 = 1 := hF.2
    have hs_ : p_ ≤ nt := hs
    refine e_aload_n (pc := 0) Xc (dT hX7_factor 0 rfl) 0 rfl ?_
    refine gf_X7_60 (pc := 1) Xc (dT hX7_factor 1 rfl) hP.o rfl ?_
    refine e_val (y := 1) hF8_ ?_
    refine e_if_eq (tgt := 8) (pc := 4) Xc (dT hX7_factor 2 rfl) rfl (fun c4 => ?_) (fun c4 => ?_)
    · skip
      exact absurd c4 (by decide)
    · skip
      refine e_vret (pc := 7) Xc hQ (dT hX7_factor 3 rfl) (Nat.le_refl _) (Nat.le_refl _) ?_
      rw [show gFa H 0 (false, p_) = (false, p_, []) from rfl]
      refine ⟨?_, Off.rf⟩
      show PX7 _ m (fP F (false, p_)) T (upA A 1 (wrL a (A 1) (([]).map encR)))
      rw [show (upA A 1 (wrL a (A 1) (([] : List xI).map encR))) = A from upA_id, show fP F (false, p_) = F from (F_ext (by first | rfl | exact hF6_.symm) (by first | rfl | exact hF8_.symm) (by first | rfl | exact h9) (fun j q6 q8 q9 => by simp only [fP, upd, if_neg q6, if_neg q8, if_neg q9]))]
      exact hP
  · skip
    have hF6_ : F 6 = nI p_ := hF.1
    have hF8_ : F 8 = 0 := hF.2
    have hs_ : p_ ≤ nt := hs
    refine e_aload_n (pc := 0) Xc (dT hX7_factor 0 rfl) 0 rfl ?_
    refine gf_X7_60 (pc := 1) Xc (dT hX7_factor 1 rfl) hP.o rfl ?_
    refine e_val (y := 0) hF8_ ?_
    refine e_if_eq (tgt := 8) (pc := 4) Xc (dT hX7_factor 2 rfl) rfl (fun c4 => ?_) (fun c4 => ?_)
    · skip
      refine e_aload_n (pc := 8) Xc (dT hX7_factor 4 rfl) 0 rfl ?_
      have hph1 : PH (A 1) F H nt a n0 := ⟨hp.1, hp.2.1, hp.2.2.1, hp.2.2.2.1, hp.2.2.2.2.1, hp.2.2.2.2.2.1, hp.2.2.2.2.2.2⟩
      refine cl_X7_64 (pc := 9) (k := 0) (n := 0) (S := []) Xc hP.o (c_here hP hph1 (true, p_) hs hF) (dT hX7_factor 5 rfl) rfl (Nat.le_of_ble_eq_true rfl) (Nat.le_of_ble_eq_true rfl) (Nat.le_of_ble_eq_true rfl) rfl (Nat.le_of_ble_eq_true rfl) (fun r2 σ3 hq4 => ?_)
      obtain ⟨r2e, r2s⟩ := hq4
      have r2e := r2e.symm; subst r2e; have r2s := r2s.symm; subst r2s
      refine e_val (y := H p_) rfl ?_
      refine e_istore_n (L' := [(1, .int (H p_)), (0, .ref m)]) (pc := 12) Xc (dT hX7_factor 6 rfl) (by decide) rfl ?_
      refine e_iload_n (pc := 13) Xc (dT hX7_factor 7 rfl) 0 rfl ?_
      refine e_bipush (v := 33) (pc := 14) Xc (dT hX7_factor 8 rfl) rfl ?_
      refine e_icmp_eq (tgt := 25) (pc := 16) Xc (dT hX7_factor 9 rfl) rfl (fun c16 => ?_) (fun c16 => ?_)
      · skip
        refine e_aload_n (pc := 25) Xc (dT hX7_factor 13 rfl) 1 rfl ?_
        refine e_aload_n (pc := 26) Xc (dT hX7_factor 14 rfl) 1 rfl ?_
        refine gf_X7_84 (pc := 27) Xc (dT hX7_factor 15 rfl) hP.o rfl ?_
        refine e_val (y := 5) h9 ?_
        refine e_iconst (v := 5) (pc := 30) Xc (dT hX7_factor 16 rfl) rfl ?_
        refine e_icmp_neN (x := 5) (y := 5) (tgt := 38) (pc := 31) Xc (dT hX7_factor 17 rfl) rfl (by omega) (by omega) (fun c31 => ?_) (fun c31 => ?_)
        · skip
          exact absurd c31 (by decide)
        · skip
          refine e_iconst (v := 1) (pc := 34) Xc (dT hX7_factor 18 rfl) rfl ?_
          refine e_goto (tgt := 39) (pc := 35) Xc (dT hX7_factor 19 rfl) rfl ?_
          refine pf_X7_60 (fs' := olX7 m (upd F 8 1) T) (pc := 39) Xc (dT hX7_factor 21 rfl) (Or.inr rfl) hP.o (Nat.le_of_ble_eq_true rfl) rfl ?_
          refine Ev.gen (fun z => PX7 z m (upd F 8 1) T A) (hP.wf8 (x := 1)) Off.set (fun σ5 hP6 ho7 => ?_)
          refine e_aload_n (pc := 42) Xc (dT hX7_factor 22 rfl) 1 rfl ?_
          refine e_dup (pc := 43) Xc (dT hX7_factor 23 rfl) rfl ?_
          refine gf_X7_84 (pc := 44) Xc (dT hX7_factor 24 rfl) hP6.o rfl ?_
          refine e_val (y := F 9) rfl ?_
          refine e_val (y := 5) h9 ?_
          refine e_iconst (v := 1) (pc := 47) Xc (dT hX7_factor 25 rfl) rfl ?_
          refine e_iaddN (a := 5) (b := 1) (pc := 48) Xc (dT hX7_factor 26 rfl) ?_
          refine e_val (y := 6) rfl ?_
          refine pf_X7_84 (fs' := olX7 m (upd (upd F 8 1) 9 6) T) (pc := 49) Xc (dT hX7_factor 27 rfl) hP6.o (Nat.le_of_ble_eq_true rfl) rfl ?_
          refine Ev.gen (fun z => PX7 z m (upd (upd F 8 1) 9 6) T A) (hP6.wf9 (x := 6)) Off.set (fun σ8 hP9 ho10 => ?_)
          refine e_aload_n (pc := 52) Xc (dT hX7_factor 28 rfl) 1 rfl ?_
          refine e_dup (pc := 53) Xc (dT hX7_factor 29 rfl) rfl ?_
          refine gf_X7_54 (pc := 54) Xc (dT hX7_factor 30 rfl) hP9.o rfl ?_
          refine e_val (y := F 6) rfl ?_
          refine e_val (y := nI p_) hF6_ ?_
          refine e_aload_n (pc := 57) Xc (dT hX7_factor 31 rfl) 1 rfl ?_
          refine gf_X7_60 (pc := 58) Xc (dT hX7_factor 32 rfl) hP9.o rfl ?_
          refine e_val (y := 1) rfl ?_
          refine e_if_eq (tgt := 68) (pc := 61) Xc (dT hX7_factor 33 rfl) rfl (fun c61 => ?_) (fun c61 => ?_)
          · skip
            exact absurd c61 (by decide)
          · skip
            refine e_iconst (v := 0) (pc := 64) Xc (dT hX7_factor 34 rfl) rfl ?_
            refine e_goto (tgt := 69) (pc := 65) Xc (dT hX7_factor 35 rfl) rfl ?_
            refine e_iaddN (a := p_) (b := 0) (pc := 69) Xc (dT hX7_factor 37 rfl) ?_
            refine e_val (y := nI p_) (congrArg nI (by omega)) ?_
            refine pf_X7_54 (fs' := olX7 m (upd (upd (upd F 8 1) 9 6) 6 (nI p_)) T) (pc := 70) Xc (dT hX7_factor 38 rfl) hP9.o (Nat.le_of_ble_eq_true rfl) rfl ?_
            refine Ev.gen (fun z => PX7 z m (upd (upd (upd F 8 1) 9 6) 6 (nI p_)) T A) (hP9.wf6 (x := nI p_)) Off.set (fun σ11 hP12 ho13 => ?_)
            refine e_iload_n (pc := 73) Xc (dT hX7_factor 39 rfl) 0 rfl ?_
            refine e_bipush (v := 33) (pc := 74) Xc (dT hX7_factor 40 rfl) rfl ?_
            refine e_icmp_ne (tgt := 91) (pc := 76) Xc (dT hX7_factor 41 rfl) rfl (fun c76 => ?_) (fun c76 => ?_)
            · skip
              exact absurd c16 c76
            · skip
              refine e_aload_n (pc := 79) Xc (dT hX7_factor 42 rfl) 1 rfl ?_
              refine cl_X7_87 (pc := 80) (k := 0) (n := 0) (S := []) Xc hP12.o (c_factorW hP12 rfl) (dT hX7_factor 43 rfl) rfl (Nat.le_of_ble_eq_true rfl) (Nat.le_of_ble_eq_true rfl) (Nat.le_of_ble_eq_true rfl) rfl (Nat.le_of_ble_eq_true rfl) (fun σ15 hq16 => ?_)
              have hq16 := hq16.symm; subst hq16
              refine e_aload_n (pc := 83) Xc (dT hX7_factor 44 rfl) 1 rfl ?_
              refine e_iconst (v := -1) (pc := 84) Xc (dT hX7_factor 45 rfl) rfl ?_
              have hph17 : PH (A 1) (upd (upd (upd F 8 1) 9 6) 6 (nI p_)) H nt a n0 := ⟨hp.1, hp.2.1, hp.2.2.1, hp.2.2.2.1, hp.2.2.2.2.1, hp.2.2.2.2.2.1, hp.2.2.2.2.2.2⟩
              refine cl_X7_90 (pc := 85) (k := 0) (n := 0) (S := []) Xc hP12.o (c_emits hP12 hph17 (false, p_) hs_ ⟨rfl, rfl⟩ (by have hn_ : n0 ≤ p_ := hn; omega) (-1)) (dT hX7_factor 46 rfl) rfl (Nat.le_of_ble_eq_true rfl) (Nat.le_of_ble_eq_true rfl) (Nat.le_of_ble_eq_true rfl) rfl (Nat.le_of_ble_eq_true rfl) (fun σ19 hq20 => ?_)
              obtain ⟨hP21, ho22⟩ := hq20
              have hP21 : PX7 σ19 m (upd (upd (upd F 8 1) 9 6) 6 (nI p_)) T (upA A 1 (A 1)) := hP21
              rw [show upA A 1 (A 1) = A from upA_id] at hP21
              refine e_goto (tgt := 101) (pc := 88) Xc (dT hX7_factor 47 rfl) rfl ?_
              refine e_aload_n (pc := 101) Xc (dT hX7_factor 53 rfl) 1 rfl ?_
              refine e_dup (pc := 102) Xc (dT hX7_factor 54 rfl) rfl ?_
              refine gf_X7_84 (pc := 103) Xc (dT hX7_factor 55 rfl) hP21.o rfl ?_
              refine e_val (y := 6) rfl ?_
              refine e_iconst (v := 1) (pc := 106) Xc (dT hX7_factor 56 rfl) rfl ?_
              refine e_isubN (a := 6) (b := 1) (pc := 107) Xc (dT hX7_factor 57 rfl) (by omega) ?_
              refine e_val (y := 5) rfl ?_
              refine pf_X7_84 (fs' := olX7 m (upd (upd (upd (upd F 8 1) 9 6) 6 (nI p_)) 9 5) T) (pc := 108) Xc (dT hX7_factor 58 rfl) hP21.o (Nat.le_of_ble_eq_true rfl) rfl ?_
              refine Ev.gen (fun z => PX7 z m (upd (upd (upd (upd F 8 1) 9 6) 6 (nI p_)) 9 5) T A) (hP21.wf9 (x := 5)) Off.set (fun σ23 hP24 ho25 => ?_)
              refine e_vret (pc := 111) Xc hQ (dT hX7_factor 59 rfl) (Nat.le_refl _) (Nat.le_refl _) ?_
              rw [show gFa H 0 (true, p_) = (false, p_, []) from fa_end (Or.inl c16)]
              refine ⟨?_, ((((ho7.tr ho10).tr ho13).tr ho22).tr ho25)⟩
              show PX7 _ m (fP F (false, p_)) T (upA A 1 (wrL a (A 1) (([]).map encR)))
              rw [show (upA A 1 (wrL a (A 1) (([] : List xI).map encR))) = A from upA_id, show fP F (false, p_) = (upd (upd (upd (upd F 8 1) 9 6) 6 (nI p_)) 9 5) from (F_ext (by first | rfl | exact hF6_.symm) (by first | rfl | exact hF8_.symm) (by first | rfl | exact h9) (fun j q6 q8 q9 => by simp only [fP, upd, if_neg q6, if_neg q8, if_neg q9]))]
              exact hP24
      · skip
        refine e_iload_n (pc := 19) Xc (dT hX7_factor 10 rfl) 0 rfl ?_
        refine e_bipush (v := 40) (pc := 20) Xc (dT hX7_factor 11 rfl) rfl ?_
        refine e_icmp_ne (tgt := 112) (pc := 22) Xc (dT hX7_factor 12 rfl) rfl (fun c22 => ?_) (fun c22 => ?_)
        · skip
          refine e_aload_n (pc := 112) Xc (dT hX7_factor 60 rfl) 1 rfl ?_
          refine e_ldcS (i := 4) (pc := 113) Xc (dT hX7_factor 61 rfl) (by decide) rfl rfl ?_
          have hph26 : PH (A 1) F H nt a n0 := ⟨hp.1, hp.2.1, hp.2.2.1, hp.2.2.2.1, hp.2.2.2.2.1, hp.2.2.2.2.2.1, hp.2.2.2.2.2.2⟩
          refine cl_X7_98 (pc := 115) (k := 0) (n := 0) (S := []) Xc hP.o (c_among hP hph26 (p_) (by omega) ⟨hF6_, hF8_⟩ 4 (by decide)) (dT hX7_factor 62 rfl) rfl (Nat.le_of_ble_eq_true rfl) (Nat.le_of_ble_eq_true rfl) (Nat.le_of_ble_eq_true rfl) rfl (Nat.le_of_ble_eq_true rfl) (fun r27 σ28 hq29 => ?_)
          rcases hq29 with ⟨k4_, hk4_, r27e, hPa4_, hoa4_⟩ | ⟨hk4_, r27e, r27s⟩
          · skip
            have r27e := r27e.symm; subst r27e
            have hkl4_ := amo_lt hk4_
            have hkq4_ : k4_ < 6 := Nat.lt_of_lt_of_le hkl4_ (by decide)
            have hps4_ := hp.2.2.1.lt rfl (amo_ne (by decide) hk4_)
            refine e_istore_n (L' := [(2, .int (nI k4_)), (1, .int (H p_)), (0, .ref m)]) (pc := 118) Xc (dT hX7_factor 63 rfl) (by decide) rfl ?_
            refine e_aload_n (pc := 119) Xc (dT hX7_factor 64 rfl) 2 rfl ?_
            refine e_iload_n (pc := 120) Xc (dT hX7_factor 65 rfl) 0 rfl ?_
            refine e_iconst (v := -1) (pc := 121) Xc (dT hX7_factor 66 rfl) rfl ?_
            refine e_icmp_ne (tgt := 129) (pc := 122) Xc (dT hX7_factor 67 rfl) rfl (fun c122 => ?_) (fun c122 => ?_)
            · skip
              refine e_iconst (v := 0) (pc := 129) Xc (dT hX7_factor 70 rfl) rfl ?_
              refine pf_X7_60 (fs' := olX7 m (upd (upd F 6 (nI (p_ + 1))) 8 0) T) (pc := 130) Xc (dT hX7_factor 71 rfl) (Or.inl rfl) hPa4_.o (Nat.le_of_ble_eq_true rfl) rfl ?_
              refine Ev.gen (fun z => PX7 z m (upd (upd F 6 (nI (p_ + 1))) 8 0) T A) (hPa4_.wf8 (x := 0)) Off.set (fun σ30 hP31 ho32 => ?_)
              refine e_aload_n (pc := 133) Xc (dT hX7_factor 72 rfl) 2 rfl ?_
              refine gf_X7_60 (pc := 134) Xc (dT hX7_factor 73 rfl) hP31.o rfl ?_
              refine e_val (y := 0) rfl ?_
              refine e_if_eq (tgt := 144) (pc := 137) Xc (dT hX7_factor 74 rfl) rfl (fun c137 => ?_) (fun c137 => ?_)
              · skip
                refine e_aload_n (pc := 144) Xc (dT hX7_factor 77 rfl) 2 rfl ?_
                refine e_ldcS (i := 5) (pc := 145) Xc (dT hX7_factor 78 rfl) (by decide) rfl rfl ?_
                have hph33 : PH (A 1) (upd (upd F 6 (nI (p_ + 1))) 8 0) H nt a n0 := ⟨hp.1, hp.2.1, hp.2.2.1, hp.2.2.2.1, hp.2.2.2.2.1, hp.2.2.2.2.2.1, hp.2.2.2.2.2.2⟩
                refine cl_X7_98 (pc := 147) (k := 0) (n := 0) (S := []) Xc hP31.o (c_among hP31 hph33 (p_ + 1) (by omega) ⟨rfl, rfl⟩ 5 (by decide)) (dT hX7_factor 79 rfl) rfl (Nat.le_of_ble_eq_true rfl) (Nat.le_of_ble_eq_true rfl) (Nat.le_of_ble_eq_true rfl) rfl (Nat.le_of_ble_eq_true rfl) (fun r34 σ35 hq36 => ?_)
                rcases hq36 with ⟨k5_, hk5_, r34e, hPa5_, hoa5_⟩ | ⟨hk5_, r34e, r34s⟩
                · skip
                  have r34e := r34e.symm; subst r34e
                  have hkl5_ := amo_lt hk5_
                  have hkq5_ : k5_ < 6 := Nat.lt_of_lt_of_le hkl5_ (by decide)
                  have hps5_ := hp.2.2.1.lt rfl (amo_ne (by decide) hk5_)
                  refine e_istore_n (L' := [(3, .int (nI k5_)), (2, .int (nI k4_)), (1, .int (H p_)), (0, .ref m)]) (pc := 150) Xc (dT hX7_factor 80 rfl) (by decide) rfl ?_
                  refine e_aload_n (pc := 151) Xc (dT hX7_factor 81 rfl) 3 rfl ?_
                  refine e_aload_n (pc := 152) Xc (dT hX7_factor 82 rfl) 3 rfl ?_
                  refine gf_X7_60 (pc := 153) Xc (dT hX7_factor 83 rfl) hPa5_.o rfl ?_
                  refine e_val (y := 0) rfl ?_
                  refine e_if_ne (tgt := 164) (pc := 156) Xc (dT hX7_factor 84 rfl) rfl (fun c156 => ?_) (fun c156 => ?_)
                  · skip
                    exact absurd c156 (by decide)
                  · skip
                    refine e_iload_n (pc := 159) Xc (dT hX7_factor 85 rfl) 0 rfl ?_
                    refine e_iconst (v := -1) (pc := 160) Xc (dT hX7_factor 86 rfl) rfl ?_
                    refine e_icmp_ne (tgt := 168) (pc := 161) Xc (dT hX7_factor 87 rfl) rfl (fun c161 => ?_) (fun c161 => ?_)
                    · skip
                      refine e_iconst (v := 0) (pc := 168) Xc (dT hX7_factor 90 rfl) rfl ?_
                      refine pf_X7_60 (fs' := olX7 m (upd (upd (upd (upd F 6 (nI (p_ + 1))) 8 0) 6 (nI (p_ + 1 + 1))) 8 0) T) (pc := 169) Xc (dT hX7_factor 91 rfl) (Or.inl rfl) hPa5_.o (Nat.le_of_ble_eq_true rfl) rfl ?_
                      refine Ev.gen (fun z => PX7 z m (upd (upd (upd (upd F 6 (nI (p_ + 1))) 8 0) 6 (nI (p_ + 1 + 1))) 8 0) T A) (hPa5_.wf8 (x := 0)) Off.set (fun σ37 hP38 ho39 => ?_)
                      refine e_aload_n (pc := 172) Xc (dT hX7_factor 92 rfl) 3 rfl ?_
                      have hph40 : PH (A 1) (upd (upd (upd (upd F 6 (nI (p_ + 1))) 8 0) 6 (nI (p_ + 1 + 1))) 8 0) H nt a n0 := ⟨hp.1, hp.2.1, hp.2.2.1, hp.2.2.2.1, hp.2.2.2.2.1, hp.2.2.2.2.2.1, hp.2.2.2.2.2.2⟩
                      refine cl_X7_104 (pc := 173) (k := 0) (n := 0) (S := []) Xc hP38.o (c_figures hP38 hph40 (true, p_ + 2) (by show _ ≤ nt; omega) ⟨rfl, rfl⟩) (dT hX7_factor 93 rfl) rfl (Nat.le_of_ble_eq_true rfl) (Nat.le_of_ble_eq_true rfl) (Nat.le_of_ble_eq_true rfl) rfl (Nat.le_of_ble_eq_true rfl) (fun r41 σ42 hq43 => ?_)
                      obtain ⟨r41e, hP44, ho45⟩ := hq43
                      have r41e := r41e.symm; subst r41e
                      refine e_istore (L' := [(4, .int (nI ((figP H (true, p_ + 2)).2))), (3, .int (nI k5_)), (2, .int (nI k4_)), (1, .int (H p_)), (0, .ref m)]) (pc := 176) Xc (dT hX7_factor 94 rfl) (by decide) rfl ?_
                      refine e_aload_n (pc := 178) Xc (dT hX7_factor 95 rfl) 4 rfl ?_
                      refine e_iload_n (pc := 179) Xc (dT hX7_factor 96 rfl) 2 rfl ?_
                      refine e_bipush (v := 8) (pc := 180) Xc (dT hX7_factor 97 rfl) rfl ?_
                      refine e_iload_n (pc := 182) Xc (dT hX7_factor 98 rfl) 1 rfl ?_
                      refine e_imulN (a := 8) (b := k5_) (pc := 183) Xc (dT hX7_factor 99 rfl) ?_
                      refine e_iaddN (a := k4_) (b := 8 * k5_) (pc := 184) Xc (dT hX7_factor 100 rfl) ?_
                      refine e_bipush (v := 32) (pc := 185) Xc (dT hX7_factor 101 rfl) rfl ?_
                      refine e_iload (pc := 187) Xc (dT hX7_factor 102 rfl) 0 rfl ?_
                      refine e_imulN (a := 32) (b := (figP H (true, p_ + 2)).2) (pc := 189) Xc (dT hX7_factor 103 rfl) ?_
                      refine e_iaddN (a := k4_ + (8 * k5_)) (b := 32 * ((figP H (true, p_ + 2)).2)) (pc := 190) Xc (dT hX7_factor 104 rfl) ?_
                      refine e_val (y := encR (.inl (k4_, k5_, (figP H (true, p_ + 2)).2))) rfl ?_
                      have hgf_ := figP_go hp.2.2.1 (s := (true, p_ + 2)) (by show p_ + 2 ≤ nt; omega)
                      have hn_ : n0 ≤ p_ := hn
                      have hph46 : PH (A 1) (fP (upd (upd (upd (upd F 6 (nI (p_ + 1))) 8 0) 6 (nI (p_ + 1 + 1))) 8 0) (figP H (true, p_ + 2)).1) H nt a n0 := ⟨hp.1, hp.2.1, hp.2.2.1, hp.2.2.2.1, hp.2.2.2.2.1, hp.2.2.2.2.2.1, hp.2.2.2.2.2.2⟩
                      refine cl_X7_90 (pc := 191) (k := 0) (n := 0) (S := []) Xc hP44.o (c_emits hP44 hph46 (figP H (true, p_ + 2)).1 hgf_.2.1 ⟨rfl, rfl⟩ (by omega) (encR (.inl (k4_, k5_, (figP H (true, p_ + 2)).2)))) (dT hX7_factor 105 rfl) rfl (Nat.le_of_ble_eq_true rfl) (Nat.le_of_ble_eq_true rfl) (Nat.le_of_ble_eq_true rfl) rfl (Nat.le_of_ble_eq_true rfl) (fun σ48 hq49 => ?_)
                      obtain ⟨hP50, ho51⟩ := hq49
                      refine e_vret (pc := 194) Xc hQ (dT hX7_factor 106 rfl) (Nat.le_refl _) (Nat.le_refl _) ?_
                      rw [show gFa H 0 (true, p_) = ((figP H (true, p_ + 2)).1.1, (figP H (true, p_ + 2)).1.2, if (figP H (true, p_ + 2)).1.1 = true then [.inl (k4_, k5_, (figP H (true, p_ + 2)).2)] else []) from (fa_test c16 c22).trans (te_s hk4_ hk5_)]
                      refine ⟨?_, (((((hoa4_.tr ho32).tr hoa5_).tr ho39).tr ho45).tr ho51)⟩
                      show PX7 _ m (fP F ((figP H (true, p_ + 2)).1.1, (figP H (true, p_ + 2)).1.2)) T (upA A 1 (wrL a (A 1) ((if (figP H (true, p_ + 2)).1.1 = true then [.inl (k4_, k5_, (figP H (true, p_ + 2)).2)] else []).map encR)))
                      rw [show (if (figP H (true, p_ + 2)).1.1 = true then [.inl (k4_, k5_, (figP H (true, p_ + 2)).2)] else []).map encR = (if (figP H (true, p_ + 2)).1.1 = true then [encR (.inl (k4_, k5_, (figP H (true, p_ + 2)).2))] else []) by split <;> rfl, show fP F ((figP H (true, p_ + 2)).1.1, (figP H (true, p_ + 2)).1.2) = (fP (upd (upd (upd (upd F 6 (nI (p_ + 1))) 8 0) 6 (nI (p_ + 1 + 1))) 8 0) (figP H (true, p_ + 2)).1) from (F_ext (by first | rfl | exact hF6_.symm) (by first | rfl | exact hF8_.symm) (by first | rfl | exact h9) (fun j q6 q8 q9 => by simp only [fP, upd, if_neg q6, if_neg q8, if_neg q9]))]
                      exact hP50
                    · skip
                      exact absurd c161 (nI_nneg (by omega) (by decide))
                · skip
                  have r34e := r34e.symm; subst r34e; have r34s := r34s.symm; subst r34s
                  refine e_istore_n (L' := [(3, .int (-1)), (2, .int (nI k4_)), (1, .int (H p_)), (0, .ref m)]) (pc := 150) Xc (dT hX7_factor 80 rfl) (by decide) rfl ?_
                  refine e_aload_n (pc := 151) Xc (dT hX7_factor 81 rfl) 3 rfl ?_
                  refine e_aload_n (pc := 152) Xc (dT hX7_factor 82 rfl) 3 rfl ?_
                  refine gf_X7_60 (pc := 153) Xc (dT hX7_factor 83 rfl) hP31.o rfl ?_
                  refine e_val (y := 0) rfl ?_
                  refine e_if_ne (tgt := 164) (pc := 156) Xc (dT hX7_factor 84 rfl) rfl (fun c156 => ?_) (fun c156 => ?_)
                  · skip
                    exact absurd c156 (by decide)
                  · skip
                    refine e_iload_n (pc := 159) Xc (dT hX7_factor 85 rfl) 0 rfl ?_
                    refine e_iconst (v := -1) (pc := 160) Xc (dT hX7_factor 86 rfl) rfl ?_
                    refine e_icmp_ne (tgt := 168) (pc := 161) Xc (dT hX7_factor 87 rfl) rfl (fun c161 => ?_) (fun c161 => ?_)
                    · skip
                      exact absurd c161 (by decide)
                    · skip
                      refine e_iconst (v := 1) (pc := 164) Xc (dT hX7_factor 88 rfl) rfl ?_
                      refine e_goto (tgt := 169) (pc := 165) Xc (dT hX7_factor 89 rfl) rfl ?_
                      refine pf_X7_60 (fs' := olX7 m (upd (upd (upd F 6 (nI (p_ + 1))) 8 0) 8 1) T) (pc := 169) Xc (dT hX7_factor 91 rfl) (Or.inr rfl) hP31.o (Nat.le_of_ble_eq_true rfl) rfl ?_
                      refine Ev.gen (fun z => PX7 z m (upd (upd (upd F 6 (nI (p_ + 1))) 8 0) 8 1) T A) (hP31.wf8 (x := 1)) Off.set (fun σ52 hP53 ho54 => ?_)
                      refine e_aload_n (pc := 172) Xc (dT hX7_factor 92 rfl) 3 rfl ?_
                      have hph55 : PH (A 1) (upd (upd (upd F 6 (nI (p_ + 1))) 8 0) 8 1) H nt a n0 := ⟨hp.1, hp.2.1, hp.2.2.1, hp.2.2.2.1, hp.2.2.2.2.1, hp.2.2.2.2.2.1, hp.2.2.2.2.2.2⟩
                      refine cl_X7_104 (pc := 173) (k := 0) (n := 0) (S := []) Xc hP53.o (c_figures hP53 hph55 (false, p_ + 1) (by show _ ≤ nt; omega) ⟨rfl, rfl⟩) (dT hX7_factor 93 rfl) rfl (Nat.le_of_ble_eq_true rfl) (Nat.le_of_ble_eq_true rfl) (Nat.le_of_ble_eq_true rfl) rfl (Nat.le_of_ble_eq_true rfl) (fun r56 σ57 hq58 => ?_)
                      obtain ⟨r56e, hP59, ho60⟩ := hq58
                      rw [show figP H (false, p_ + 1) = ((false, p_ + 1), 0) from if_neg (fun q => Bool.noConfusion q.1)] at r56e hP59
                      have r56e := r56e.symm; subst r56e
                      refine e_istore (L' := [(4, .int 0), (3, .int (-1)), (2, .int (nI k4_)), (1, .int (H p_)), (0, .ref m)]) (pc := 176) Xc (dT hX7_factor 94 rfl) (by decide) rfl ?_
                      refine e_aload_n (pc := 178) Xc (dT hX7_factor 95 rfl) 4 rfl ?_
                      refine e_iload_n (pc := 179) Xc (dT hX7_factor 96 rfl) 2 rfl ?_
                      refine e_bipush (v := 8) (pc := 180) Xc (dT hX7_factor 97 rfl) rfl ?_
                      refine e_iload_n (pc := 182) Xc (dT hX7_factor 98 rfl) 1 rfl ?_
                      refine e_imul (pc := 183) Xc (dT hX7_factor 99 rfl) ?_
                      refine e_iadd (pc := 184) Xc (dT hX7_factor 100 rfl) ?_
                      refine e_bipush (v := 32) (pc := 185) Xc (dT hX7_factor 101 rfl) rfl ?_
                      refine e_iload (pc := 187) Xc (dT hX7_factor 102 rfl) 0 rfl ?_
                      refine e_imulN (a := 32) (b := 0) (pc := 189) Xc (dT hX7_factor 103 rfl) ?_
                      refine e_val (y := 0) rfl ?_
                      refine e_iadd (pc := 190) Xc (dT hX7_factor 104 rfl) ?_
                      have hn_ : n0 ≤ p_ := hn
                      have hph61 : PH (A 1) (fP (upd (upd (upd F 6 (nI (p_ + 1))) 8 0) 8 1) (false, p_ + 1)) H nt a n0 := ⟨hp.1, hp.2.1, hp.2.2.1, hp.2.2.2.1, hp.2.2.2.2.1, hp.2.2.2.2.2.1, hp.2.2.2.2.2.2⟩
                      refine cl_X7_90 (pc := 191) (k := 0) (n := 0) (S := []) Xc hP59.o (c_emits hP59 hph61 (false, p_ + 1) (by show _ ≤ nt; omega) ⟨rfl, rfl⟩ (by omega) (((nI k4_) + (8 * (-1))) + 0)) (dT hX7_factor 105 rfl) rfl (Nat.le_of_ble_eq_true rfl) (Nat.le_of_ble_eq_true rfl) (Nat.le_of_ble_eq_true rfl) rfl (Nat.le_of_ble_eq_true rfl) (fun σ63 hq64 => ?_)
                      obtain ⟨hP65, ho66⟩ := hq64
                      have hP65 : PX7 σ63 m (fP (upd (upd (upd F 6 (nI (p_ + 1))) 8 0) 8 1) (false, p_ + 1)) T (upA A 1 (A 1)) := hP65
                      rw [show upA A 1 (A 1) = A from upA_id] at hP65
                      refine e_vret (pc := 194) Xc hQ (dT hX7_factor 106 rfl) (Nat.le_refl _) (Nat.le_refl _) ?_
                      rw [show gFa H 0 (true, p_) = (false, p_ + 1, []) from (fa_test c16 c22).trans (te_n2 hk4_ hk5_)]
                      refine ⟨?_, ((((hoa4_.tr ho32).tr ho54).tr ho60).tr ho66)⟩
                      show PX7 _ m (fP F (false, p_ + 1)) T (upA A 1 (wrL a (A 1) (([]).map encR)))
                      rw [show (upA A 1 (wrL a (A 1) (([] : List xI).map encR))) = A from upA_id, show fP F (false, p_ + 1) = (fP (upd (upd (upd F 6 (nI (p_ + 1))) 8 0) 8 1) (false, p_ + 1)) from (F_ext (by first | rfl | exact hF6_.symm) (by first | rfl | exact hF8_.symm) (by first | rfl | exact h9) (fun j q6 q8 q9 => by simp only [fP, upd, if_neg q6, if_neg q8, if_neg q9]))]
                      exact hP65
              · skip
                exact absurd c137 (by decide)
            · skip
              exact absurd c122 (nI_nneg (by omega) (by decide))
          · skip
            have r27e := r27e.symm; subst r27e; have r27s := r27s.symm; subst r27s
            refine e_istore_n (L' := [(2, .int (-1)), (1, .int (H p_)), (0, .ref m)]) (pc := 118) Xc (dT hX7_factor 63 rfl) (by decide) rfl ?_
            refine e_aload_n (pc := 119) Xc (dT hX7_factor 64 rfl) 2 rfl ?_
            refine e_iload_n (pc := 120) Xc (dT hX7_factor 65 rfl) 0 rfl ?_
            refine e_iconst (v := -1) (pc := 121) Xc (dT hX7_factor 66 rfl) rfl ?_
            refine e_icmp_ne (tgt := 129) (pc := 122) Xc (dT hX7_factor 67 rfl) rfl (fun c122 => ?_) (fun c122 => ?_)
            · skip
              exact absurd c122 (by decide)
            · skip
              refine e_iconst (v := 1) (pc := 125) Xc (dT hX7_factor 68 rfl) rfl ?_
              refine e_goto (tgt := 130) (pc := 126) Xc (dT hX7_factor 69 rfl) rfl ?_
              refine pf_X7_60 (fs' := olX7 m (upd F 8 1) T) (pc := 130) Xc (dT hX7_factor 71 rfl) (Or.inr rfl) hP.o (Nat.le_of_ble_eq_true rfl) rfl ?_
              refine Ev.gen (fun z => PX7 z m (upd F 8 1) T A) (hP.wf8 (x := 1)) Off.set (fun σ67 hP68 ho69 => ?_)
              refine e_aload_n (pc := 133) Xc (dT hX7_factor 72 rfl) 2 rfl ?_
              refine gf_X7_60 (pc := 134) Xc (dT hX7_factor 73 rfl) hP68.o rfl ?_
              refine e_val (y := 1) rfl ?_
              refine e_if_eq (tgt := 144) (pc := 137) Xc (dT hX7_factor 74 rfl) rfl (fun c137 => ?_) (fun c137 => ?_)
              · skip
                exact absurd c137 (by decide)
              · skip
                refine e_iconst (v := 0) (pc := 140) Xc (dT hX7_factor 75 rfl) rfl ?_
                refine e_goto (tgt := 150) (pc := 141) Xc (dT hX7_factor 76 rfl) rfl ?_
                refine e_istore_n (L' := [(3, .int 0), (2, .int (-1)), (1, .int (H p_)), (0, .ref m)]) (pc := 150) Xc (dT hX7_factor 80 rfl) (by decide) rfl ?_
                refine e_aload_n (pc := 151) Xc (dT hX7_factor 81 rfl) 3 rfl ?_
                refine e_aload_n (pc := 152) Xc (dT hX7_factor 82 rfl) 3 rfl ?_
                refine gf_X7_60 (pc := 153) Xc (dT hX7_factor 83 rfl) hP68.o rfl ?_
                refine e_val (y := 1) rfl ?_
                refine e_if_ne (tgt := 164) (pc := 156) Xc (dT hX7_factor 84 rfl) rfl (fun c156 => ?_) (fun c156 => ?_)
                · skip
                  refine e_iconst (v := 1) (pc := 164) Xc (dT hX7_factor 88 rfl) rfl ?_
                  refine e_goto (tgt := 169) (pc := 165) Xc (dT hX7_factor 89 rfl) rfl ?_
                  refine pf_X7_60 (fs' := olX7 m (upd (upd F 8 1) 8 1) T) (pc := 169) Xc (dT hX7_factor 91 rfl) (Or.inr rfl) hP68.o (Nat.le_of_ble_eq_true rfl) rfl ?_
                  refine Ev.gen (fun z => PX7 z m (upd (upd F 8 1) 8 1) T A) (hP68.wf8 (x := 1)) Off.set (fun σ70 hP71 ho72 => ?_)
                  refine e_aload_n (pc := 172) Xc (dT hX7_factor 92 rfl) 3 rfl ?_
                  have hph73 : PH (A 1) (upd (upd F 8 1) 8 1) H nt a n0 := ⟨hp.1, hp.2.1, hp.2.2.1, hp.2.2.2.1, hp.2.2.2.2.1, hp.2.2.2.2.2.1, hp.2.2.2.2.2.2⟩
                  refine cl_X7_104 (pc := 173) (k := 0) (n := 0) (S := []) Xc hP71.o (c_figures hP71 hph73 (false, p_) (by show _ ≤ nt; omega) ⟨hF6_, rfl⟩) (dT hX7_factor 93 rfl) rfl (Nat.le_of_ble_eq_true rfl) (Nat.le_of_ble_eq_true rfl) (Nat.le_of_ble_eq_true rfl) rfl (Nat.le_of_ble_eq_true rfl) (fun r74 σ75 hq76 => ?_)
                  obtain ⟨r74e, hP77, ho78⟩ := hq76
                  rw [show figP H (false, p_) = ((false, p_), 0) from if_neg (fun q => Bool.noConfusion q.1)] at r74e hP77
                  have r74e := r74e.symm; subst r74e
                  refine e_istore (L' := [(4, .int 0), (3, .int 0), (2, .int (-1)), (1, .int (H p_)), (0, .ref m)]) (pc := 176) Xc (dT hX7_factor 94 rfl) (by decide) rfl ?_
                  refine e_aload_n (pc := 178) Xc (dT hX7_factor 95 rfl) 4 rfl ?_
                  refine e_iload_n (pc := 179) Xc (dT hX7_factor 96 rfl) 2 rfl ?_
                  refine e_bipush (v := 8) (pc := 180) Xc (dT hX7_factor 97 rfl) rfl ?_
                  refine e_iload_n (pc := 182) Xc (dT hX7_factor 98 rfl) 1 rfl ?_
                  refine e_imulN (a := 8) (b := 0) (pc := 183) Xc (dT hX7_factor 99 rfl) ?_
                  refine e_val (y := 0) rfl ?_
                  refine e_iadd (pc := 184) Xc (dT hX7_factor 100 rfl) ?_
                  refine e_bipush (v := 32) (pc := 185) Xc (dT hX7_factor 101 rfl) rfl ?_
                  refine e_iload (pc := 187) Xc (dT hX7_factor 102 rfl) 0 rfl ?_
                  refine e_imulN (a := 32) (b := 0) (pc := 189) Xc (dT hX7_factor 103 rfl) ?_
                  refine e_val (y := 0) rfl ?_
                  refine e_iadd (pc := 190) Xc (dT hX7_factor 104 rfl) ?_
                  have hn_ : n0 ≤ p_ := hn
                  have hph79 : PH (A 1) (fP (upd (upd F 8 1) 8 1) (false, p_)) H nt a n0 := ⟨hp.1, hp.2.1, hp.2.2.1, hp.2.2.2.1, hp.2.2.2.2.1, hp.2.2.2.2.2.1, hp.2.2.2.2.2.2⟩
                  refine cl_X7_90 (pc := 191) (k := 0) (n := 0) (S := []) Xc hP77.o (c_emits hP77 hph79 (false, p_) (by show _ ≤ nt; omega) ⟨rfl, rfl⟩ (by omega) (((-1) + 0) + 0)) (dT hX7_factor 105 rfl) rfl (Nat.le_of_ble_eq_true rfl) (Nat.le_of_ble_eq_true rfl) (Nat.le_of_ble_eq_true rfl) rfl (Nat.le_of_ble_eq_true rfl) (fun σ81 hq82 => ?_)
                  obtain ⟨hP83, ho84⟩ := hq82
                  have hP83 : PX7 σ81 m (fP (upd (upd F 8 1) 8 1) (false, p_)) T (upA A 1 (A 1)) := hP83
                  rw [show upA A 1 (A 1) = A from upA_id] at hP83
                  refine e_vret (pc := 194) Xc hQ (dT hX7_factor 106 rfl) (Nat.le_refl _) (Nat.le_refl _) ?_
                  rw [show gFa H 0 (true, p_) = (false, p_, []) from (fa_test c16 c22).trans (te_n1 hk4_)]
                  refine ⟨?_, (((ho69.tr ho72).tr ho78).tr ho84)⟩
                  show PX7 _ m (fP F (false, p_)) T (upA A 1 (wrL a (A 1) (([]).map encR)))
                  rw [show (upA A 1 (wrL a (A 1) (([] : List xI).map encR))) = A from upA_id, show fP F (false, p_) = (fP (upd (upd F 8 1) 8 1) (false, p_)) from (F_ext (by first | rfl | exact hF6_.symm) (by first | rfl | exact hF8_.symm) (by first | rfl | exact h9) (fun j q6 q8 q9 => by simp only [fP, upd, if_neg q6, if_neg q8, if_neg q9]))]
                  exact hP83
                · skip
                  exact absurd c156 (by decide)
        · skip
          refine e_aload_n (pc := 25) Xc (dT hX7_factor 13 rfl) 1 rfl ?_
          refine e_aload_n (pc := 26) Xc (dT hX7_factor 14 rfl) 1 rfl ?_
          refine gf_X7_84 (pc := 27) Xc (dT hX7_factor 15 rfl) hP.o rfl ?_
          refine e_val (y := 5) h9 ?_
          refine e_iconst (v := 5) (pc := 30) Xc (dT hX7_factor 16 rfl) rfl ?_
          refine e_icmp_neN (x := 5) (y := 5) (tgt := 38) (pc := 31) Xc (dT hX7_factor 17 rfl) rfl (by omega) (by omega) (fun c31 => ?_) (fun c31 => ?_)
          · skip
            exact absurd c31 (by decide)
          · skip
            refine e_iconst (v := 1) (pc := 34) Xc (dT hX7_factor 18 rfl) rfl ?_
            refine e_goto (tgt := 39) (pc := 35) Xc (dT hX7_factor 19 rfl) rfl ?_
            refine pf_X7_60 (fs' := olX7 m (upd F 8 1) T) (pc := 39) Xc (dT hX7_factor 21 rfl) (Or.inr rfl) hP.o (Nat.le_of_ble_eq_true rfl) rfl ?_
            refine Ev.gen (fun z => PX7 z m (upd F 8 1) T A) (hP.wf8 (x := 1)) Off.set (fun σ85 hP86 ho87 => ?_)
            refine e_aload_n (pc := 42) Xc (dT hX7_factor 22 rfl) 1 rfl ?_
            refine e_dup (pc := 43) Xc (dT hX7_factor 23 rfl) rfl ?_
            refine gf_X7_84 (pc := 44) Xc (dT hX7_factor 24 rfl) hP86.o rfl ?_
            refine e_val (y := F 9) rfl ?_
            refine e_val (y := 5) h9 ?_
            refine e_iconst (v := 1) (pc := 47) Xc (dT hX7_factor 25 rfl) rfl ?_
            refine e_iaddN (a := 5) (b := 1) (pc := 48) Xc (dT hX7_factor 26 rfl) ?_
            refine e_val (y := 6) rfl ?_
            refine pf_X7_84 (fs' := olX7 m (upd (upd F 8 1) 9 6) T) (pc := 49) Xc (dT hX7_factor 27 rfl) hP86.o (Nat.le_of_ble_eq_true rfl) rfl ?_
            refine Ev.gen (fun z => PX7 z m (upd (upd F 8 1) 9 6) T A) (hP86.wf9 (x := 6)) Off.set (fun σ88 hP89 ho90 => ?_)
            refine e_aload_n (pc := 52) Xc (dT hX7_factor 28 rfl) 1 rfl ?_
            refine e_dup (pc := 53) Xc (dT hX7_factor 29 rfl) rfl ?_
            refine gf_X7_54 (pc := 54) Xc (dT hX7_factor 30 rfl) hP89.o rfl ?_
            refine e_val (y := F 6) rfl ?_
            refine e_val (y := nI p_) hF6_ ?_
            refine e_aload_n (pc := 57) Xc (dT hX7_factor 31 rfl) 1 rfl ?_
            refine gf_X7_60 (pc := 58) Xc (dT hX7_factor 32 rfl) hP89.o rfl ?_
            refine e_val (y := 1) rfl ?_
            refine e_if_eq (tgt := 68) (pc := 61) Xc (dT hX7_factor 33 rfl) rfl (fun c61 => ?_) (fun c61 => ?_)
            · skip
              exact absurd c61 (by decide)
            · skip
              refine e_iconst (v := 0) (pc := 64) Xc (dT hX7_factor 34 rfl) rfl ?_
              refine e_goto (tgt := 69) (pc := 65) Xc (dT hX7_factor 35 rfl) rfl ?_
              refine e_iaddN (a := p_) (b := 0) (pc := 69) Xc (dT hX7_factor 37 rfl) ?_
              refine e_val (y := nI p_) (congrArg nI (by omega)) ?_
              refine pf_X7_54 (fs' := olX7 m (upd (upd (upd F 8 1) 9 6) 6 (nI p_)) T) (pc := 70) Xc (dT hX7_factor 38 rfl) hP89.o (Nat.le_of_ble_eq_true rfl) rfl ?_
              refine Ev.gen (fun z => PX7 z m (upd (upd (upd F 8 1) 9 6) 6 (nI p_)) T A) (hP89.wf6 (x := nI p_)) Off.set (fun σ91 hP92 ho93 => ?_)
              refine e_iload_n (pc := 73) Xc (dT hX7_factor 39 rfl) 0 rfl ?_
              refine e_bipush (v := 33) (pc := 74) Xc (dT hX7_factor 40 rfl) rfl ?_
              refine e_icmp_ne (tgt := 91) (pc := 76) Xc (dT hX7_factor 41 rfl) rfl (fun c76 => ?_) (fun c76 => ?_)
              · skip
                refine e_aload_n (pc := 91) Xc (dT hX7_factor 48 rfl) 1 rfl ?_
                refine cl_X7_93 (pc := 92) (k := 0) (n := 0) (S := []) Xc hP92.o (c_someW hP92 rfl) (dT hX7_factor 49 rfl) rfl (Nat.le_of_ble_eq_true rfl) (Nat.le_of_ble_eq_true rfl) (Nat.le_of_ble_eq_true rfl) rfl (Nat.le_of_ble_eq_true rfl) (fun σ95 hq96 => ?_)
                have hq96 := hq96.symm; subst hq96
                refine e_aload_n (pc := 95) Xc (dT hX7_factor 50 rfl) 1 rfl ?_
                refine e_bipush (v := 41) (pc := 96) Xc (dT hX7_factor 51 rfl) rfl ?_
                have hph97 : PH (A 1) (upd (upd (upd F 8 1) 9 6) 6 (nI p_)) H nt a n0 := ⟨hp.1, hp.2.1, hp.2.2.1, hp.2.2.2.1, hp.2.2.2.2.1, hp.2.2.2.2.2.1, hp.2.2.2.2.2.2⟩
                refine cl_X7_77 (pc := 98) (k := 0) (n := 0) (S := []) Xc hP92.o (c_must hP92 hph97 (false, p_) hs_ ⟨rfl, rfl⟩ 41) (dT hX7_factor 52 rfl) rfl (Nat.le_of_ble_eq_true rfl) (Nat.le_of_ble_eq_true rfl) (Nat.le_of_ble_eq_true rfl) rfl (Nat.le_of_ble_eq_true rfl) (fun σ99 hq100 => ?_)
                obtain ⟨hP101, ho102⟩ := hq100
                rw [must_f] at hP101
                refine e_aload_n (pc := 101) Xc (dT hX7_factor 53 rfl) 1 rfl ?_
                refine e_dup (pc := 102) Xc (dT hX7_factor 54 rfl) rfl ?_
                refine gf_X7_84 (pc := 103) Xc (dT hX7_factor 55 rfl) hP101.o rfl ?_
                refine e_val (y := 6) rfl ?_
                refine e_iconst (v := 1) (pc := 106) Xc (dT hX7_factor 56 rfl) rfl ?_
                refine e_isubN (a := 6) (b := 1) (pc := 107) Xc (dT hX7_factor 57 rfl) (by omega) ?_
                refine e_val (y := 5) rfl ?_
                refine pf_X7_84 (fs' := olX7 m (upd (fP (upd (upd (upd F 8 1) 9 6) 6 (nI p_)) (false, p_)) 9 5) T) (pc := 108) Xc (dT hX7_factor 58 rfl) hP101.o (Nat.le_of_ble_eq_true rfl) rfl ?_
                refine Ev.gen (fun z => PX7 z m (upd (fP (upd (upd (upd F 8 1) 9 6) 6 (nI p_)) (false, p_)) 9 5) T A) (hP101.wf9 (x := 5)) Off.set (fun σ103 hP104 ho105 => ?_)
                refine e_vret (pc := 111) Xc hQ (dT hX7_factor 59 rfl) (Nat.le_refl _) (Nat.le_refl _) ?_
                rw [show gFa H 0 (true, p_) = (false, p_, []) from fa_end (Or.inr c22)]
                refine ⟨?_, ((((ho87.tr ho90).tr ho93).tr ho102).tr ho105)⟩
                show PX7 _ m (fP F (false, p_)) T (upA A 1 (wrL a (A 1) (([]).map encR)))
                rw [show (upA A 1 (wrL a (A 1) (([] : List xI).map encR))) = A from upA_id, show fP F (false, p_) = (upd (fP (upd (upd (upd F 8 1) 9 6) 6 (nI p_)) (false, p_)) 9 5) from (F_ext (by first | rfl | exact hF6_.symm) (by first | rfl | exact hF8_.symm) (by first | rfl | exact h9) (fun j q6 q8 q9 => by simp only [fP, upd, if_neg q6, if_neg q8, if_neg q9]))]
                exact hP104
              · skip
                exact absurd c76 c16
    · skip
      exact absurd c4 (by decide)
set_option maxRecDepth 100000 in
set_option maxHeartbeats 4000000 in
theorem c_every0 {G : xG} {σ : xS} {m : Nat} {F : Nat → Int32} {T : Nat → Nat} {A : Nat → Nat → Int32} (hP : PX7 σ m F T A) {H : Nat → Int32} {nt a n0 : Nat} (hp : PH (A 1) F H nt a n0) (s : Bool × Nat) (hs : s.2 ≤ nt) (hF : F 6 = nI s.2 ∧ F 8 = bI (!s.1)) (hn : n0 ≤ s.2) (h9 : F 9 = 5) : CV G yX7_every cX7_every 1 none 6 0 0 [.ref m] σ (fun σ1 => pP σ1 m F T A a (gTa H 0 s) ∧ Off m σ σ1) := by
  refine Met.ofX (by decide +kernel) (Nat.le_of_ble_eq_true rfl) (fun μ Xc hQ hnm => ?_)
  have Xc : xC G μ cX7_every 1 RX7 none 6 0 0 := Xc
  have hnt_ := hp.1
  have ha5_ := hp.2.1
  show Ev G μ 1 0 0 0 [(0, .ref m)] [] σ
  refine e_aload_n (pc := 0) Xc (dT hX7_every 0 rfl) 0 rfl ?_
  refine cl_X7_87 (pc := 1) (k := 0) (n := 0) (S := []) Xc hP.o (c_factor0 hP hp s hs hF hn h9) (dT hX7_every 1 rfl) rfl (Nat.le_of_ble_eq_true rfl) (Nat.le_of_ble_eq_true rfl) (Nat.le_of_ble_eq_true rfl) rfl (Nat.le_of_ble_eq_true rfl) (fun σ2 hq3 => ?_)
  obtain ⟨hP4, ho5⟩ := hq3
  have hP4 : PX7 σ2 m (fP F ((gFa H 0 s).1, (gFa H 0 s).2.1)) T (upA A 1 (wrL a (A 1) ((gFa H 0 s).2.2.map encR))) := hP4
  have lp4 : ∀ (n4 : Nat) (k_ : Nat) (ok_ : Bool) (p_ : Nat) (l_ : List xI) (σ2 : xS), k_ < n4 → (ok_ = true → nt < p_ + k_) → (lpJ H (factP H 0) 38 1 k_ (ok_, p_, l_) = (gTa H 0 s)) → (goP nt s.2 (ok_, p_, l_)) → (PX7 σ2 m (fP F (ok_, p_)) T (upA A 1 (wrL a (A 1) (l_.map encR)))) → (Off m σ σ2) → Ev G μ 1 0 0 4 [(0, .ref m)] [] σ2 := by
    intro n4
    induction n4 with
    | zero => intro k_ ok_ p_ l_ σ2 hn; exact absurd hn (Nat.not_lt_zero _)
    | succ n4 ih4 =>
      intro k_ ok_ p_ l_ σ2 hn4 hk_ hR_ hgo_ hp2 ho2
      refine e_aload_n (pc := 4) Xc (dT hX7_every 2 rfl) 0 rfl ?_
      refine gf_X7_60 (pc := 5) Xc (dT hX7_every 3 rfl) hp2.o rfl ?_
      refine e_val (y := bI (!ok_)) rfl ?_
      refine e_if_ne (tgt := 43) (pc := 8) Xc (dT hX7_every 4 rfl) rfl (fun c8 => ?_) (fun c8 => ?_)
      · skip
        refine e_vret (pc := 43) Xc hQ (dT hX7_every 21 rfl) (Nat.le_refl _) (Nat.le_refl _) ?_
        rw [lpJ_x (r := (ok_, p_, l_)) (fun q => by have q1 : ok_ = true := q.1; rw [q1] at c8; exact c8 rfl)] at hR_
        rw [← hR_]
        exact ⟨hp2, ho2⟩
      · skip
        have hok_ : ok_ = true := by cases ok_; exact absurd c8 (by decide); rfl
        subst hok_
        refine e_aload_n (pc := 11) Xc (dT hX7_every 5 rfl) 0 rfl ?_
        have hph6 : PH (wrL a (A 1) (l_.map encR)) (fP F (true, p_)) H nt a (n0 + (l_.map encR).length) := ⟨hp.1, hp.2.1, hp.2.2.1, fun q hq => (wrL_lo (by omega) _ _).trans (hp.2.2.2.1 q hq), hp.2.2.2.2.1, hp.2.2.2.2.2.1, wrL_n _ _ _ hp.2.2.2.2.2.2⟩
        refine cl_X7_64 (pc := 12) (k := 0) (n := 0) (S := []) Xc hp2.o (c_here hp2 hph6 (true, p_) hgo_.2.1 ⟨rfl, rfl⟩) (dT hX7_every 6 rfl) rfl (Nat.le_of_ble_eq_true rfl) (Nat.le_of_ble_eq_true rfl) (Nat.le_of_ble_eq_true rfl) rfl (Nat.le_of_ble_eq_true rfl) (fun r7 σ8 hq9 => ?_)
        obtain ⟨r7e, r7s⟩ := hq9
        have r7e := r7e.symm; subst r7e; have r7s := r7s.symm; subst r7s
        refine e_val (y := H p_) rfl ?_
        refine e_bipush (v := 38) (pc := 15) Xc (dT hX7_every 7 rfl) rfl ?_
        refine e_icmp_ne (tgt := 43) (pc := 17) Xc (dT hX7_every 8 rfl) rfl (fun c17 => ?_) (fun c17 => ?_)
        · skip
          refine e_vret (pc := 43) Xc hQ (dT hX7_every 21 rfl) (Nat.le_refl _) (Nat.le_refl _) ?_
          rw [lpJ_x (r := (true, p_, l_)) (fun q => c17 q.2)] at hR_
          rw [← hR_]
          exact ⟨hp2, ho2⟩
        · skip
          have hlt_ := hp.2.2.1.lt c17 (by decide)
          obtain ⟨k_, rfl⟩ : ∃ k, k_ = k + 1 := ⟨k_ - 1, by have := hk_ rfl; omega⟩
          refine e_aload_n (pc := 20) Xc (dT hX7_every 9 rfl) 0 rfl ?_
          refine e_dup (pc := 21) Xc (dT hX7_every 10 rfl) rfl ?_
          refine gf_X7_54 (pc := 22) Xc (dT hX7_every 11 rfl) hp2.o rfl ?_
          refine e_val (y := nI p_) rfl ?_
          refine e_iconst (v := 1) (pc := 25) Xc (dT hX7_every 12 rfl) rfl ?_
          refine e_iaddN (a := p_) (b := 1) (pc := 26) Xc (dT hX7_every 13 rfl) ?_
          refine pf_X7_54 (fs' := olX7 m (upd (fP F (true, p_)) 6 (nI (p_ + 1))) T) (pc := 27) Xc (dT hX7_every 14 rfl) hp2.o (Nat.le_of_ble_eq_true rfl) rfl ?_
          refine Ev.gen (fun z => PX7 z m (upd (fP F (true, p_)) 6 (nI (p_ + 1))) T (upA A 1 (wrL a (A 1) (l_.map encR)))) (hp2.wf6 (x := nI (p_ + 1))) Off.set (fun σ10 hP11 ho12 => ?_)
          obtain ⟨hgo1_, hgo2a_, hgo3_, hgo4_⟩ := id hgo_
          have hgo1_ : s.2 ≤ p_ := hgo1_
          have hgo2a_ : p_ ≤ nt := hgo2a_
          have hgo4_ : l_.length + s.2 ≤ p_ := hgo4_
          have hll_ : (l_.map encR).length = l_.length := List.length_map _
          have hph13 : PH (wrL a (A 1) (l_.map encR)) (upd (fP F (true, p_)) 6 (nI (p_ + 1))) H nt a (n0 + (l_.map encR).length) := ⟨hp.1, hp.2.1, hp.2.2.1, fun q hq => (wrL_lo (by omega) _ _).trans (hp.2.2.2.1 q hq), hp.2.2.2.2.1, hp.2.2.2.2.2.1, wrL_n _ _ _ hp.2.2.2.2.2.2⟩
          refine e_aload_n (pc := 30) Xc (dT hX7_every 15 rfl) 0 rfl ?_
          obtain ⟨hgo1_, hgo2a_, hgo3_, hgo4_⟩ := id hgo_
          have hgo1_ : s.2 ≤ p_ := hgo1_
          have hgo2a_ : p_ ≤ nt := hgo2a_
          have hgo4_ : l_.length + s.2 ≤ p_ := hgo4_
          have hll_ : (l_.map encR).length = l_.length := List.length_map _
          have hph14 : PH (wrL a (A 1) (l_.map encR)) (upd (fP F (true, p_)) 6 (nI (p_ + 1))) H nt a (n0 + (l_.map encR).length) := ⟨hp.1, hp.2.1, hp.2.2.1, fun q hq => (wrL_lo (by omega) _ _).trans (hp.2.2.2.1 q hq), hp.2.2.2.2.1, hp.2.2.2.2.2.1, wrL_n _ _ _ hp.2.2.2.2.2.2⟩
          refine cl_X7_87 (pc := 31) (k := 0) (n := 0) (S := []) Xc hP11.o (c_factor0 hP11 hph14 (true, p_ + 1) (by show p_ + 1 ≤ nt; omega) ⟨rfl, rfl⟩ (by show n0 + (l_.map encR).length ≤ p_ + 1; omega) h9) (dT hX7_every 16 rfl) rfl (Nat.le_of_ble_eq_true rfl) (Nat.le_of_ble_eq_true rfl) (Nat.le_of_ble_eq_true rfl) rfl (Nat.le_of_ble_eq_true rfl) (fun σ16 hq17 => ?_)
          obtain ⟨hP18, ho19⟩ := hq17
          have hP18 : PX7 σ16 m (fP (upd (fP F (true, p_)) 6 (nI (p_ + 1))) (((factP H 0) (p_ + 1)).1, ((factP H 0) (p_ + 1)).2.1)) T (upA (upA A 1 (wrL a (A 1) (l_.map encR))) 1 (wrL a (wrL a (A 1) (l_.map encR)) (((factP H 0) (p_ + 1)).2.2.map encR))) := hP18
          rw [upA_2, wrL_app] at hP18
          obtain ⟨hq1_, hq2_, hq3_, hq4_⟩ : goP nt (p_ + 1) ((factP H 0) (p_ + 1)) := (fun q hq => factP_go hp.2.2.1 0 q hq) (p_ + 1) (by omega)
          have hll2_ : (((factP H 0) (p_ + 1)).2.2.map encR).length = ((factP H 0) (p_ + 1)).2.2.length := List.length_map _
          have hll3_ : ((l_.map encR) ++ (((factP H 0) (p_ + 1)).2.2.map encR)).length = l_.length + ((factP H 0) (p_ + 1)).2.2.length := by rw [List.length_append, hll_, hll2_]
          have hgo2_ : goP nt s.2 (((factP H 0) (p_ + 1)).1, ((factP H 0) (p_ + 1)).2.1, l_ ++ (((factP H 0) (p_ + 1)).2.2 ++ (if ((factP H 0) (p_ + 1)).1 = true then [.inr 1] else []))) := by
            refine ⟨?_, hq2_, fun _ => ?_, ?_⟩
            · show s.2 ≤ ((factP H 0) (p_ + 1)).2.1; omega
            · show s.2 < ((factP H 0) (p_ + 1)).2.1; omega
            · show (l_ ++ (((factP H 0) (p_ + 1)).2.2 ++ (if ((factP H 0) (p_ + 1)).1 = true then [Sum.inr 1] else ([] : List xI)))).length + s.2 ≤ ((factP H 0) (p_ + 1)).2.1
              rw [List.length_append, List.length_append]
              split
              · rw [List.length_singleton]; omega
              · rw [List.length_nil]; omega
          refine e_aload_n (pc := 34) Xc (dT hX7_every 17 rfl) 0 rfl ?_
          have hph20 : PH (wrL a (A 1) ((l_.map encR) ++ (((factP H 0) (p_ + 1)).2.2.map encR))) (fP (upd (fP F (true, p_)) 6 (nI (p_ + 1))) (((factP H 0) (p_ + 1)).1, ((factP H 0) (p_ + 1)).2.1)) H nt a (n0 + ((l_.map encR) ++ (((factP H 0) (p_ + 1)).2.2.map encR)).length) := ⟨hp.1, hp.2.1, hp.2.2.1, fun q hq => (wrL_lo (by omega) _ _).trans (hp.2.2.2.1 q hq), hp.2.2.2.2.1, hp.2.2.2.2.2.1, wrL_n _ _ _ hp.2.2.2.2.2.2⟩
          refine e_bipush (v := -2) (pc := 35) Xc (dT hX7_every 18 rfl) rfl ?_
          have hph21 : PH (wrL a (A 1) ((l_.map encR) ++ (((factP H 0) (p_ + 1)).2.2.map encR))) (fP (upd (fP F (true, p_)) 6 (nI (p_ + 1))) (((factP H 0) (p_ + 1)).1, ((factP H 0) (p_ + 1)).2.1)) H nt a (n0 + ((l_.map encR) ++ (((factP H 0) (p_ + 1)).2.2.map encR)).length) := ⟨hp.1, hp.2.1, hp.2.2.1, fun q hq => (wrL_lo (by omega) _ _).trans (hp.2.2.2.1 q hq), hp.2.2.2.2.1, hp.2.2.2.2.2.1, wrL_n _ _ _ hp.2.2.2.2.2.2⟩
          refine cl_X7_90 (pc := 37) (k := 0) (n := 0) (S := []) Xc hP18.o (c_emits hP18 hph21 (((factP H 0) (p_ + 1)).1, ((factP H 0) (p_ + 1)).2.1) hq2_ ⟨rfl, rfl⟩ (by omega) (-2)) (dT hX7_every 19 rfl) rfl (Nat.le_of_ble_eq_true rfl) (Nat.le_of_ble_eq_true rfl) (Nat.le_of_ble_eq_true rfl) rfl (Nat.le_of_ble_eq_true rfl) (fun σ23 hq24 => ?_)
          obtain ⟨hP25, ho26⟩ := hq24
          have hP25 : PX7 σ23 m (fP (upd (fP F (true, p_)) 6 (nI (p_ + 1))) (((factP H 0) (p_ + 1)).1, ((factP H 0) (p_ + 1)).2.1)) T (upA (upA A 1 (wrL a (A 1) ((l_.map encR) ++ (((factP H 0) (p_ + 1)).2.2.map encR)))) 1 (wrL a (wrL a (A 1) ((l_.map encR) ++ (((factP H 0) (p_ + 1)).2.2.map encR))) (if (((factP H 0) (p_ + 1)).1, ((factP H 0) (p_ + 1)).2.1).1 = true then [(-2)] else []))) := hP25
          rw [upA_2, wrL_app] at hP25
          refine e_goto (tgt := 4) (pc := 40) Xc (dT hX7_every 20 rfl) rfl ?_
          refine Ev.pick (L' := [(0, .ref m)]) [0] rfl ?_
          exact ih4 k_ (((factP H 0) (p_ + 1)).1) (((factP H 0) (p_ + 1)).2.1) (l_ ++ (((factP H 0) (p_ + 1)).2.2 ++ (if ((factP H 0) (p_ + 1)).1 = true then [.inr 1] else []))) σ23 (by omega) (fun q => by have := hk_ rfl; omega) ((lpJ_s c17).symm.trans hR_) hgo2_ (by rw [show List.map encR (l_ ++ (((factP H 0) (p_ + 1)).2.2 ++ (if ((factP H 0) (p_ + 1)).1 = true then [Sum.inr 1] else []))) = (((l_.map encR) ++ (((factP H 0) (p_ + 1)).2.2.map encR)) ++ (if (((factP H 0) (p_ + 1)).1, ((factP H 0) (p_ + 1)).2.1).1 = true then [(-2)] else [])) by rw [List.map_append, enc_if, List.append_assoc]; rfl]; rw [← show (fP (upd (fP F (true, p_)) 6 (nI (p_ + 1))) (((factP H 0) (p_ + 1)).1, ((factP H 0) (p_ + 1)).2.1)) = fP F (((factP H 0) (p_ + 1)).1, ((factP H 0) (p_ + 1)).2.1) from (F_ext rfl rfl rfl (fun j q6 q8 q9 => by simp only [fP, upd, if_neg q6, if_neg q8, if_neg q9]))]; exact hP25) (((ho2.tr ho12).tr ho19).tr ho26)
  refine Ev.pick (L' := [(0, .ref m)]) [0] rfl ?_
  exact lp4 ((100) + 1) 100 ((gFa H 0 s).1) ((gFa H 0 s).2.1) ((gFa H 0 s).2.2) σ2 (Nat.lt_succ_self _) (fun q => by have := (gFa_go (d := 0) hp.2.2.1 hs).2.2.1 q; have := hp.1; omega) rfl (gFa_go (d := 0) hp.2.2.1 hs) hP4 ho5
set_option maxRecDepth 100000 in
set_option maxHeartbeats 4000000 in
theorem c_some0 {G : xG} {σ : xS} {m : Nat} {F : Nat → Int32} {T : Nat → Nat} {A : Nat → Nat → Int32} (hP : PX7 σ m F T A) {H : Nat → Int32} {nt a n0 : Nat} (hp : PH (A 1) F H nt a n0) (s : Bool × Nat) (hs : s.2 ≤ nt) (hF : F 6 = nI s.2 ∧ F 8 = bI (!s.1)) (hn : n0 ≤ s.2) (h9 : F 9 = 5) : CV G yX7_some cX7_some 1 none 7 0 0 [.ref m] σ (fun σ1 => pP σ1 m F T A a (gEa H 0 s) ∧ Off m σ σ1) := by
  refine Met.ofX (by decide +kernel) (Nat.le_of_ble_eq_true rfl) (fun μ Xc hQ hnm => ?_)
  have Xc : xC G μ cX7_some 1 RX7 none 7 0 0 := Xc
  have hnt_ := hp.1
  have ha5_ := hp.2.1
  show Ev G μ 1 0 0 0 [(0, .ref m)] [] σ
  refine e_aload_n (pc := 0) Xc (dT hX7_some 0 rfl) 0 rfl ?_
  refine cl_X7_107 (pc := 1) (k := 0) (n := 0) (S := []) Xc hP.o (c_every0 hP hp s hs hF hn h9) (dT hX7_some 1 rfl) rfl (Nat.le_of_ble_eq_true rfl) (Nat.le_of_ble_eq_true rfl) (Nat.le_of_ble_eq_true rfl) rfl (Nat.le_of_ble_eq_true rfl) (fun σ2 hq3 => ?_)
  obtain ⟨hP4, ho5⟩ := hq3
  have hP4 : PX7 σ2 m (fP F ((gTa H 0 s).1, (gTa H 0 s).2.1)) T (upA A 1 (wrL a (A 1) ((gTa H 0 s).2.2.map encR))) := hP4
  have lp4 : ∀ (n4 : Nat) (k_ : Nat) (ok_ : Bool) (p_ : Nat) (l_ : List xI) (σ2 : xS), k_ < n4 → (ok_ = true → nt < p_ + k_) → (lpJ H (tofP H (factP H 0)) 124 2 k_ (ok_, p_, l_) = (gEa H 0 s)) → (goP nt s.2 (ok_, p_, l_)) → (PX7 σ2 m (fP F (ok_, p_)) T (upA A 1 (wrL a (A 1) (l_.map encR)))) → (Off m σ σ2) → Ev G μ 1 0 0 4 [(0, .ref m)] [] σ2 := by
    intro n4
    induction n4 with
    | zero => intro k_ ok_ p_ l_ σ2 hn; exact absurd hn (Nat.not_lt_zero _)
    | succ n4 ih4 =>
      intro k_ ok_ p_ l_ σ2 hn4 hk_ hR_ hgo_ hp2 ho2
      refine e_aload_n (pc := 4) Xc (dT hX7_some 2 rfl) 0 rfl ?_
      refine gf_X7_60 (pc := 5) Xc (dT hX7_some 3 rfl) hp2.o rfl ?_
      refine e_val (y := bI (!ok_)) rfl ?_
      refine e_if_ne (tgt := 43) (pc := 8) Xc (dT hX7_some 4 rfl) rfl (fun c8 => ?_) (fun c8 => ?_)
      · skip
        refine e_vret (pc := 43) Xc hQ (dT hX7_some 21 rfl) (Nat.le_refl _) (Nat.le_refl _) ?_
        rw [lpJ_x (r := (ok_, p_, l_)) (fun q => by have q1 : ok_ = true := q.1; rw [q1] at c8; exact c8 rfl)] at hR_
        rw [← hR_]
        exact ⟨hp2, ho2⟩
      · skip
        have hok_ : ok_ = true := by cases ok_; exact absurd c8 (by decide); rfl
        subst hok_
        refine e_aload_n (pc := 11) Xc (dT hX7_some 5 rfl) 0 rfl ?_
        have hph6 : PH (wrL a (A 1) (l_.map encR)) (fP F (true, p_)) H nt a (n0 + (l_.map encR).length) := ⟨hp.1, hp.2.1, hp.2.2.1, fun q hq => (wrL_lo (by omega) _ _).trans (hp.2.2.2.1 q hq), hp.2.2.2.2.1, hp.2.2.2.2.2.1, wrL_n _ _ _ hp.2.2.2.2.2.2⟩
        refine cl_X7_64 (pc := 12) (k := 0) (n := 0) (S := []) Xc hp2.o (c_here hp2 hph6 (true, p_) hgo_.2.1 ⟨rfl, rfl⟩) (dT hX7_some 6 rfl) rfl (Nat.le_of_ble_eq_true rfl) (Nat.le_of_ble_eq_true rfl) (Nat.le_of_ble_eq_true rfl) rfl (Nat.le_of_ble_eq_true rfl) (fun r7 σ8 hq9 => ?_)
        obtain ⟨r7e, r7s⟩ := hq9
        have r7e := r7e.symm; subst r7e; have r7s := r7s.symm; subst r7s
        refine e_val (y := H p_) rfl ?_
        refine e_bipush (v := 124) (pc := 15) Xc (dT hX7_some 7 rfl) rfl ?_
        refine e_icmp_ne (tgt := 43) (pc := 17) Xc (dT hX7_some 8 rfl) rfl (fun c17 => ?_) (fun c17 => ?_)
        · skip
          refine e_vret (pc := 43) Xc hQ (dT hX7_some 21 rfl) (Nat.le_refl _) (Nat.le_refl _) ?_
          rw [lpJ_x (r := (true, p_, l_)) (fun q => c17 q.2)] at hR_
          rw [← hR_]
          exact ⟨hp2, ho2⟩
        · skip
          have hlt_ := hp.2.2.1.lt c17 (by decide)
          obtain ⟨k_, rfl⟩ : ∃ k, k_ = k + 1 := ⟨k_ - 1, by have := hk_ rfl; omega⟩
          refine e_aload_n (pc := 20) Xc (dT hX7_some 9 rfl) 0 rfl ?_
          refine e_dup (pc := 21) Xc (dT hX7_some 10 rfl) rfl ?_
          refine gf_X7_54 (pc := 22) Xc (dT hX7_some 11 rfl) hp2.o rfl ?_
          refine e_val (y := nI p_) rfl ?_
          refine e_iconst (v := 1) (pc := 25) Xc (dT hX7_some 12 rfl) rfl ?_
          refine e_iaddN (a := p_) (b := 1) (pc := 26) Xc (dT hX7_some 13 rfl) ?_
          refine pf_X7_54 (fs' := olX7 m (upd (fP F (true, p_)) 6 (nI (p_ + 1))) T) (pc := 27) Xc (dT hX7_some 14 rfl) hp2.o (Nat.le_of_ble_eq_true rfl) rfl ?_
          refine Ev.gen (fun z => PX7 z m (upd (fP F (true, p_)) 6 (nI (p_ + 1))) T (upA A 1 (wrL a (A 1) (l_.map encR)))) (hp2.wf6 (x := nI (p_ + 1))) Off.set (fun σ10 hP11 ho12 => ?_)
          obtain ⟨hgo1_, hgo2a_, hgo3_, hgo4_⟩ := id hgo_
          have hgo1_ : s.2 ≤ p_ := hgo1_
          have hgo2a_ : p_ ≤ nt := hgo2a_
          have hgo4_ : l_.length + s.2 ≤ p_ := hgo4_
          have hll_ : (l_.map encR).length = l_.length := List.length_map _
          have hph13 : PH (wrL a (A 1) (l_.map encR)) (upd (fP F (true, p_)) 6 (nI (p_ + 1))) H nt a (n0 + (l_.map encR).length) := ⟨hp.1, hp.2.1, hp.2.2.1, fun q hq => (wrL_lo (by omega) _ _).trans (hp.2.2.2.1 q hq), hp.2.2.2.2.1, hp.2.2.2.2.2.1, wrL_n _ _ _ hp.2.2.2.2.2.2⟩
          refine e_aload_n (pc := 30) Xc (dT hX7_some 15 rfl) 0 rfl ?_
          obtain ⟨hgo1_, hgo2a_, hgo3_, hgo4_⟩ := id hgo_
          have hgo1_ : s.2 ≤ p_ := hgo1_
          have hgo2a_ : p_ ≤ nt := hgo2a_
          have hgo4_ : l_.length + s.2 ≤ p_ := hgo4_
          have hll_ : (l_.map encR).length = l_.length := List.length_map _
          have hph14 : PH (wrL a (A 1) (l_.map encR)) (upd (fP F (true, p_)) 6 (nI (p_ + 1))) H nt a (n0 + (l_.map encR).length) := ⟨hp.1, hp.2.1, hp.2.2.1, fun q hq => (wrL_lo (by omega) _ _).trans (hp.2.2.2.1 q hq), hp.2.2.2.2.1, hp.2.2.2.2.2.1, wrL_n _ _ _ hp.2.2.2.2.2.2⟩
          refine cl_X7_107 (pc := 31) (k := 0) (n := 0) (S := []) Xc hP11.o (c_every0 hP11 hph14 (true, p_ + 1) (by show p_ + 1 ≤ nt; omega) ⟨rfl, rfl⟩ (by show n0 + (l_.map encR).length ≤ p_ + 1; omega) h9) (dT hX7_some 16 rfl) rfl (Nat.le_of_ble_eq_true rfl) (Nat.le_of_ble_eq_true rfl) (Nat.le_of_ble_eq_true rfl) rfl (Nat.le_of_ble_eq_true rfl) (fun σ16 hq17 => ?_)
          obtain ⟨hP18, ho19⟩ := hq17
          have hP18 : PX7 σ16 m (fP (upd (fP F (true, p_)) 6 (nI (p_ + 1))) (((tofP H (factP H 0)) (p_ + 1)).1, ((tofP H (factP H 0)) (p_ + 1)).2.1)) T (upA (upA A 1 (wrL a (A 1) (l_.map encR))) 1 (wrL a (wrL a (A 1) (l_.map encR)) (((tofP H (factP H 0)) (p_ + 1)).2.2.map encR))) := hP18
          rw [upA_2, wrL_app] at hP18
          obtain ⟨hq1_, hq2_, hq3_, hq4_⟩ : goP nt (p_ + 1) ((tofP H (factP H 0)) (p_ + 1)) := (fun q hq => tofP_go hp.2.2.1 (fun q hq => factP_go hp.2.2.1 0 q hq) hq) (p_ + 1) (by omega)
          have hll2_ : (((tofP H (factP H 0)) (p_ + 1)).2.2.map encR).length = ((tofP H (factP H 0)) (p_ + 1)).2.2.length := List.length_map _
          have hll3_ : ((l_.map encR) ++ (((tofP H (factP H 0)) (p_ + 1)).2.2.map encR)).length = l_.length + ((tofP H (factP H 0)) (p_ + 1)).2.2.length := by rw [List.length_append, hll_, hll2_]
          have hgo2_ : goP nt s.2 (((tofP H (factP H 0)) (p_ + 1)).1, ((tofP H (factP H 0)) (p_ + 1)).2.1, l_ ++ (((tofP H (factP H 0)) (p_ + 1)).2.2 ++ (if ((tofP H (factP H 0)) (p_ + 1)).1 = true then [.inr 2] else []))) := by
            refine ⟨?_, hq2_, fun _ => ?_, ?_⟩
            · show s.2 ≤ ((tofP H (factP H 0)) (p_ + 1)).2.1; omega
            · show s.2 < ((tofP H (factP H 0)) (p_ + 1)).2.1; omega
            · show (l_ ++ (((tofP H (factP H 0)) (p_ + 1)).2.2 ++ (if ((tofP H (factP H 0)) (p_ + 1)).1 = true then [Sum.inr 2] else ([] : List xI)))).length + s.2 ≤ ((tofP H (factP H 0)) (p_ + 1)).2.1
              rw [List.length_append, List.length_append]
              split
              · rw [List.length_singleton]; omega
              · rw [List.length_nil]; omega
          refine e_aload_n (pc := 34) Xc (dT hX7_some 17 rfl) 0 rfl ?_
          have hph20 : PH (wrL a (A 1) ((l_.map encR) ++ (((tofP H (factP H 0)) (p_ + 1)).2.2.map encR))) (fP (upd (fP F (true, p_)) 6 (nI (p_ + 1))) (((tofP H (factP H 0)) (p_ + 1)).1, ((tofP H (factP H 0)) (p_ + 1)).2.1)) H nt a (n0 + ((l_.map encR) ++ (((tofP H (factP H 0)) (p_ + 1)).2.2.map encR)).length) := ⟨hp.1, hp.2.1, hp.2.2.1, fun q hq => (wrL_lo (by omega) _ _).trans (hp.2.2.2.1 q hq), hp.2.2.2.2.1, hp.2.2.2.2.2.1, wrL_n _ _ _ hp.2.2.2.2.2.2⟩
          refine e_bipush (v := -3) (pc := 35) Xc (dT hX7_some 18 rfl) rfl ?_
          have hph21 : PH (wrL a (A 1) ((l_.map encR) ++ (((tofP H (factP H 0)) (p_ + 1)).2.2.map encR))) (fP (upd (fP F (true, p_)) 6 (nI (p_ + 1))) (((tofP H (factP H 0)) (p_ + 1)).1, ((tofP H (factP H 0)) (p_ + 1)).2.1)) H nt a (n0 + ((l_.map encR) ++ (((tofP H (factP H 0)) (p_ + 1)).2.2.map encR)).length) := ⟨hp.1, hp.2.1, hp.2.2.1, fun q hq => (wrL_lo (by omega) _ _).trans (hp.2.2.2.1 q hq), hp.2.2.2.2.1, hp.2.2.2.2.2.1, wrL_n _ _ _ hp.2.2.2.2.2.2⟩
          refine cl_X7_90 (pc := 37) (k := 0) (n := 0) (S := []) Xc hP18.o (c_emits hP18 hph21 (((tofP H (factP H 0)) (p_ + 1)).1, ((tofP H (factP H 0)) (p_ + 1)).2.1) hq2_ ⟨rfl, rfl⟩ (by omega) (-3)) (dT hX7_some 19 rfl) rfl (Nat.le_of_ble_eq_true rfl) (Nat.le_of_ble_eq_true rfl) (Nat.le_of_ble_eq_true rfl) rfl (Nat.le_of_ble_eq_true rfl) (fun σ23 hq24 => ?_)
          obtain ⟨hP25, ho26⟩ := hq24
          have hP25 : PX7 σ23 m (fP (upd (fP F (true, p_)) 6 (nI (p_ + 1))) (((tofP H (factP H 0)) (p_ + 1)).1, ((tofP H (factP H 0)) (p_ + 1)).2.1)) T (upA (upA A 1 (wrL a (A 1) ((l_.map encR) ++ (((tofP H (factP H 0)) (p_ + 1)).2.2.map encR)))) 1 (wrL a (wrL a (A 1) ((l_.map encR) ++ (((tofP H (factP H 0)) (p_ + 1)).2.2.map encR))) (if (((tofP H (factP H 0)) (p_ + 1)).1, ((tofP H (factP H 0)) (p_ + 1)).2.1).1 = true then [(-3)] else []))) := hP25
          rw [upA_2, wrL_app] at hP25
          refine e_goto (tgt := 4) (pc := 40) Xc (dT hX7_some 20 rfl) rfl ?_
          refine Ev.pick (L' := [(0, .ref m)]) [0] rfl ?_
          exact ih4 k_ (((tofP H (factP H 0)) (p_ + 1)).1) (((tofP H (factP H 0)) (p_ + 1)).2.1) (l_ ++ (((tofP H (factP H 0)) (p_ + 1)).2.2 ++ (if ((tofP H (factP H 0)) (p_ + 1)).1 = true then [.inr 2] else []))) σ23 (by omega) (fun q => by have := hk_ rfl; omega) ((lpJ_s c17).symm.trans hR_) hgo2_ (by rw [show List.map encR (l_ ++ (((tofP H (factP H 0)) (p_ + 1)).2.2 ++ (if ((tofP H (factP H 0)) (p_ + 1)).1 = true then [Sum.inr 2] else []))) = (((l_.map encR) ++ (((tofP H (factP H 0)) (p_ + 1)).2.2.map encR)) ++ (if (((tofP H (factP H 0)) (p_ + 1)).1, ((tofP H (factP H 0)) (p_ + 1)).2.1).1 = true then [(-3)] else [])) by rw [List.map_append, enc_if, List.append_assoc]; rfl]; rw [← show (fP (upd (fP F (true, p_)) 6 (nI (p_ + 1))) (((tofP H (factP H 0)) (p_ + 1)).1, ((tofP H (factP H 0)) (p_ + 1)).2.1)) = fP F (((tofP H (factP H 0)) (p_ + 1)).1, ((tofP H (factP H 0)) (p_ + 1)).2.1) from (F_ext rfl rfl rfl (fun j q6 q8 q9 => by simp only [fP, upd, if_neg q6, if_neg q8, if_neg q9]))]; exact hP25) (((ho2.tr ho12).tr ho19).tr ho26)
  refine Ev.pick (L' := [(0, .ref m)]) [0] rfl ?_
  exact lp4 ((100) + 1) 100 ((gTa H 0 s).1) ((gTa H 0 s).2.1) ((gTa H 0 s).2.2) σ2 (Nat.lt_succ_self _) (fun q => by have := (gTa_go (d := 0) hp.2.2.1 hs).2.2.1 q; have := hp.1; omega) rfl (gTa_go (d := 0) hp.2.2.1 hs) hP4 ho5
set_option maxRecDepth 100000 in
set_option maxHeartbeats 4000000 in
theorem c_factor1 {G : xG} {σ : xS} {m : Nat} {F : Nat → Int32} {T : Nat → Nat} {A : Nat → Nat → Int32} (hP : PX7 σ m F T A) {H : Nat → Int32} {nt a n0 : Nat} (hp : PH (A 1) F H nt a n0) (s : Bool × Nat) (hs : s.2 ≤ nt) (hF : F 6 = nI s.2 ∧ F 8 = bI (!s.1)) (hn : n0 ≤ s.2) (h9 : F 9 = 4) : CV G yX7_factor cX7_factor 5 none 8 0 0 [.ref m] σ (fun σ1 => pP σ1 m F T A a (gFa H 1 s) ∧ Off m σ σ1) := by
  refine Met.ofX (by decide +kernel) (Nat.le_of_ble_eq_true rfl) (fun μ Xc hQ hnm => ?_)
  have Xc : xC G μ cX7_factor 5 RX7 none 8 0 0 := Xc
  have hnt_ := hp.1
  have ha5_ := hp.2.1
  show Ev G μ 5 0 0 0 [(0, .ref m)] [] σ
  rcases s with ⟨_ | _, p_⟩
  · skip
    have hF6_ : F 6 = nI p_ := hF.1
    have hF8_ : F 8 = 1 := hF.2
    have hs_ : p_ ≤ nt := hs
    refine e_aload_n (pc := 0) Xc (dT hX7_factor 0 rfl) 0 rfl ?_
    refine gf_X7_60 (pc := 1) Xc (dT hX7_factor 1 rfl) hP.o rfl ?_
    refine e_val (y := 1) hF8_ ?_
    refine e_if_eq (tgt := 8) (pc := 4) Xc (dT hX7_factor 2 rfl) rfl (fun c4 => ?_) (fun c4 => ?_)
    · skip
      exact absurd c4 (by decide)
    · skip
      refine e_vret (pc := 7) Xc hQ (dT hX7_factor 3 rfl) (Nat.le_refl _) (Nat.le_refl _) ?_
      rw [show gFa H 1 (false, p_) = (false, p_, []) from rfl]
      refine ⟨?_, Off.rf⟩
      show PX7 _ m (fP F (false, p_)) T (upA A 1 (wrL a (A 1) (([]).map encR)))
      rw [show (upA A 1 (wrL a (A 1) (([] : List xI).map encR))) = A from upA_id, show fP F (false, p_) = F from (F_ext (by first | rfl | exact hF6_.symm) (by first | rfl | exact hF8_.symm) (by first | rfl | exact h9) (fun j q6 q8 q9 => by simp only [fP, upd, if_neg q6, if_neg q8, if_neg q9]))]
      exact hP
  · skip
    have hF6_ : F 6 = nI p_ := hF.1
    have hF8_ : F 8 = 0 := hF.2
    have hs_ : p_ ≤ nt := hs
    refine e_aload_n (pc := 0) Xc (dT hX7_factor 0 rfl) 0 rfl ?_
    refine gf_X7_60 (pc := 1) Xc (dT hX7_factor 1 rfl) hP.o rfl ?_
    refine e_val (y := 0) hF8_ ?_
    refine e_if_eq (tgt := 8) (pc := 4) Xc (dT hX7_factor 2 rfl) rfl (fun c4 => ?_) (fun c4 => ?_)
    · skip
      refine e_aload_n (pc := 8) Xc (dT hX7_factor 4 rfl) 0 rfl ?_
      have hph1 : PH (A 1) F H nt a n0 := ⟨hp.1, hp.2.1, hp.2.2.1, hp.2.2.2.1, hp.2.2.2.2.1, hp.2.2.2.2.2.1, hp.2.2.2.2.2.2⟩
      refine cl_X7_64 (pc := 9) (k := 0) (n := 0) (S := []) Xc hP.o (c_here hP hph1 (true, p_) hs hF) (dT hX7_factor 5 rfl) rfl (Nat.le_of_ble_eq_true rfl) (Nat.le_of_ble_eq_true rfl) (Nat.le_of_ble_eq_true rfl) rfl (Nat.le_of_ble_eq_true rfl) (fun r2 σ3 hq4 => ?_)
      obtain ⟨r2e, r2s⟩ := hq4
      have r2e := r2e.symm; subst r2e; have r2s := r2s.symm; subst r2s
      refine e_val (y := H p_) rfl ?_
      refine e_istore_n (L' := [(1, .int (H p_)), (0, .ref m)]) (pc := 12) Xc (dT hX7_factor 6 rfl) (by decide) rfl ?_
      refine e_iload_n (pc := 13) Xc (dT hX7_factor 7 rfl) 0 rfl ?_
      refine e_bipush (v := 33) (pc := 14) Xc (dT hX7_factor 8 rfl) rfl ?_
      refine e_icmp_eq (tgt := 25) (pc := 16) Xc (dT hX7_factor 9 rfl) rfl (fun c16 => ?_) (fun c16 => ?_)
      · skip
        refine e_aload_n (pc := 25) Xc (dT hX7_factor 13 rfl) 1 rfl ?_
        refine e_aload_n (pc := 26) Xc (dT hX7_factor 14 rfl) 1 rfl ?_
        refine gf_X7_84 (pc := 27) Xc (dT hX7_factor 15 rfl) hP.o rfl ?_
        refine e_val (y := 4) h9 ?_
        refine e_iconst (v := 5) (pc := 30) Xc (dT hX7_factor 16 rfl) rfl ?_
        refine e_icmp_neN (x := 4) (y := 5) (tgt := 38) (pc := 31) Xc (dT hX7_factor 17 rfl) rfl (by omega) (by omega) (fun c31 => ?_) (fun c31 => ?_)
        · skip
          refine e_iconst (v := 0) (pc := 38) Xc (dT hX7_factor 20 rfl) rfl ?_
          refine pf_X7_60 (fs' := olX7 m (upd F 8 0) T) (pc := 39) Xc (dT hX7_factor 21 rfl) (Or.inl rfl) hP.o (Nat.le_of_ble_eq_true rfl) rfl ?_
          refine Ev.gen (fun z => PX7 z m (upd F 8 0) T A) (hP.wf8 (x := 0)) Off.set (fun σ5 hP6 ho7 => ?_)
          refine e_aload_n (pc := 42) Xc (dT hX7_factor 22 rfl) 1 rfl ?_
          refine e_dup (pc := 43) Xc (dT hX7_factor 23 rfl) rfl ?_
          refine gf_X7_84 (pc := 44) Xc (dT hX7_factor 24 rfl) hP6.o rfl ?_
          refine e_val (y := F 9) rfl ?_
          refine e_val (y := 4) h9 ?_
          refine e_iconst (v := 1) (pc := 47) Xc (dT hX7_factor 25 rfl) rfl ?_
          refine e_iaddN (a := 4) (b := 1) (pc := 48) Xc (dT hX7_factor 26 rfl) ?_
          refine e_val (y := 5) rfl ?_
          refine pf_X7_84 (fs' := olX7 m (upd (upd F 8 0) 9 5) T) (pc := 49) Xc (dT hX7_factor 27 rfl) hP6.o (Nat.le_of_ble_eq_true rfl) rfl ?_
          refine Ev.gen (fun z => PX7 z m (upd (upd F 8 0) 9 5) T A) (hP6.wf9 (x := 5)) Off.set (fun σ8 hP9 ho10 => ?_)
          refine e_aload_n (pc := 52) Xc (dT hX7_factor 28 rfl) 1 rfl ?_
          refine e_dup (pc := 53) Xc (dT hX7_factor 29 rfl) rfl ?_
          refine gf_X7_54 (pc := 54) Xc (dT hX7_factor 30 rfl) hP9.o rfl ?_
          refine e_val (y := F 6) rfl ?_
          refine e_val (y := nI p_) hF6_ ?_
          refine e_aload_n (pc := 57) Xc (dT hX7_factor 31 rfl) 1 rfl ?_
          refine gf_X7_60 (pc := 58) Xc (dT hX7_factor 32 rfl) hP9.o rfl ?_
          refine e_val (y := 0) rfl ?_
          refine e_if_eq (tgt := 68) (pc := 61) Xc (dT hX7_factor 33 rfl) rfl (fun c61 => ?_) (fun c61 => ?_)
          · skip
            refine e_iconst (v := 1) (pc := 68) Xc (dT hX7_factor 36 rfl) rfl ?_
            refine e_iaddN (a := p_) (b := 1) (pc := 69) Xc (dT hX7_factor 37 rfl) ?_
            refine pf_X7_54 (fs' := olX7 m (upd (upd (upd F 8 0) 9 5) 6 (nI (p_ + 1))) T) (pc := 70) Xc (dT hX7_factor 38 rfl) hP9.o (Nat.le_of_ble_eq_true rfl) rfl ?_
            refine Ev.gen (fun z => PX7 z m (upd (upd (upd F 8 0) 9 5) 6 (nI (p_ + 1))) T A) (hP9.wf6 (x := nI (p_ + 1))) Off.set (fun σ11 hP12 ho13 => ?_)
            refine e_iload_n (pc := 73) Xc (dT hX7_factor 39 rfl) 0 rfl ?_
            refine e_bipush (v := 33) (pc := 74) Xc (dT hX7_factor 40 rfl) rfl ?_
            refine e_icmp_ne (tgt := 91) (pc := 76) Xc (dT hX7_factor 41 rfl) rfl (fun c76 => ?_) (fun c76 => ?_)
            · skip
              exact absurd c16 c76
            · skip
              refine e_aload_n (pc := 79) Xc (dT hX7_factor 42 rfl) 1 rfl ?_
              have hlt_ := hp.2.2.1.lt c16 (by decide)
              have hn_ : n0 ≤ p_ := hn
              have hph14 : PH (A 1) (upd (upd (upd F 8 0) 9 5) 6 (nI (p_ + 1))) H nt a n0 := ⟨hp.1, hp.2.1, hp.2.2.1, hp.2.2.2.1, hp.2.2.2.2.1, hp.2.2.2.2.2.1, hp.2.2.2.2.2.2⟩
              refine cl_X7_87 (pc := 80) (k := 0) (n := 0) (S := []) Xc hP12.o (c_factor0 hP12 hph14 (true, p_ + 1) (by show p_ + 1 ≤ nt; omega) ⟨rfl, rfl⟩ (by show n0 ≤ p_ + 1; omega) rfl) (dT hX7_factor 43 rfl) rfl (Nat.le_of_ble_eq_true rfl) (Nat.le_of_ble_eq_true rfl) (Nat.le_of_ble_eq_true rfl) rfl (Nat.le_of_ble_eq_true rfl) (fun σ16 hq17 => ?_)
              obtain ⟨hP18, ho19⟩ := hq17
              have hP18 : PX7 σ16 m (fP (upd (upd (upd F 8 0) 9 5) 6 (nI (p_ + 1))) ((factP H 0 (p_ + 1)).1, (factP H 0 (p_ + 1)).2.1)) T (upA A 1 (wrL a (A 1) ((factP H 0 (p_ + 1)).2.2.map encR))) := hP18
              obtain ⟨hg1_, hg2_, hg3_, hg4_⟩ : goP nt (p_ + 1) (factP H 0 (p_ + 1)) := factP_go hp.2.2.1 0 (p_ + 1) (by omega)
              have hll_ : ((factP H 0 (p_ + 1)).2.2.map encR).length = (factP H 0 (p_ + 1)).2.2.length := List.length_map _
              refine e_aload_n (pc := 83) Xc (dT hX7_factor 44 rfl) 1 rfl ?_
              refine e_iconst (v := -1) (pc := 84) Xc (dT hX7_factor 45 rfl) rfl ?_
              have hph20 : PH (wrL a (A 1) ((factP H 0 (p_ + 1)).2.2.map encR)) (fP (upd (upd (upd F 8 0) 9 5) 6 (nI (p_ + 1))) ((factP H 0 (p_ + 1)).1, (factP H 0 (p_ + 1)).2.1)) H nt a (n0 + ((factP H 0 (p_ + 1)).2.2.map encR).length) := ⟨hp.1, hp.2.1, hp.2.2.1, fun q hq => (wrL_lo (by omega) _ _).trans (hp.2.2.2.1 q hq), hp.2.2.2.2.1, hp.2.2.2.2.2.1, wrL_n _ _ _ hp.2.2.2.2.2.2⟩
              refine cl_X7_90 (pc := 85) (k := 0) (n := 0) (S := []) Xc hP18.o (c_emits hP18 hph20 ((factP H 0 (p_ + 1)).1, (factP H 0 (p_ + 1)).2.1) hg2_ ⟨rfl, rfl⟩ (by have hn_ : n0 ≤ p_ := hn; omega) (-1)) (dT hX7_factor 46 rfl) rfl (Nat.le_of_ble_eq_true rfl) (Nat.le_of_ble_eq_true rfl) (Nat.le_of_ble_eq_true rfl) rfl (Nat.le_of_ble_eq_true rfl) (fun σ22 hq23 => ?_)
              obtain ⟨hP24, ho25⟩ := hq23
              have hP24 : PX7 σ22 m (fP (upd (upd (upd F 8 0) 9 5) 6 (nI (p_ + 1))) ((factP H 0 (p_ + 1)).1, (factP H 0 (p_ + 1)).2.1)) T (upA (upA A 1 (wrL a (A 1) ((factP H 0 (p_ + 1)).2.2.map encR))) 1 (wrL a (wrL a (A 1) ((factP H 0 (p_ + 1)).2.2.map encR)) (if ((factP H 0 (p_ + 1)).1, (factP H 0 (p_ + 1)).2.1).1 = true then [(-1)] else []))) := hP24
              rw [upA_2, wrL_app] at hP24
              refine e_goto (tgt := 101) (pc := 88) Xc (dT hX7_factor 47 rfl) rfl ?_
              refine e_aload_n (pc := 101) Xc (dT hX7_factor 53 rfl) 1 rfl ?_
              refine e_dup (pc := 102) Xc (dT hX7_factor 54 rfl) rfl ?_
              refine gf_X7_84 (pc := 103) Xc (dT hX7_factor 55 rfl) hP24.o rfl ?_
              refine e_val (y := 5) rfl ?_
              refine e_iconst (v := 1) (pc := 106) Xc (dT hX7_factor 56 rfl) rfl ?_
              refine e_isubN (a := 5) (b := 1) (pc := 107) Xc (dT hX7_factor 57 rfl) (by omega) ?_
              refine e_val (y := 4) rfl ?_
              refine pf_X7_84 (fs' := olX7 m (upd (fP (upd (upd (upd F 8 0) 9 5) 6 (nI (p_ + 1))) ((factP H 0 (p_ + 1)).1, (factP H 0 (p_ + 1)).2.1)) 9 4) T) (pc := 108) Xc (dT hX7_factor 58 rfl) hP24.o (Nat.le_of_ble_eq_true rfl) rfl ?_
              refine Ev.gen (fun z => PX7 z m (upd (fP (upd (upd (upd F 8 0) 9 5) 6 (nI (p_ + 1))) ((factP H 0 (p_ + 1)).1, (factP H 0 (p_ + 1)).2.1)) 9 4) T (upA A 1 (wrL a (A 1) (((factP H 0 (p_ + 1)).2.2.map encR) ++ (if ((factP H 0 (p_ + 1)).1, (factP H 0 (p_ + 1)).2.1).1 = true then [(-1)] else []))))) (hP24.wf9 (x := 4)) Off.set (fun σ26 hP27 ho28 => ?_)
              refine e_vret (pc := 111) Xc hQ (dT hX7_factor 59 rfl) (Nat.le_refl _) (Nat.le_refl _) ?_
              rw [show gFa H 1 (true, p_) = ((factP H 0 (p_ + 1)).1, (factP H 0 (p_ + 1)).2.1, (factP H 0 (p_ + 1)).2.2 ++ (if (factP H 0 (p_ + 1)).1 = true then [Sum.inr 0] else ([] : List xI))) from fa_bang c16]
              refine ⟨?_, (((((ho7.tr ho10).tr ho13).tr ho19).tr ho25).tr ho28)⟩
              show PX7 _ m (fP F ((factP H 0 (p_ + 1)).1, (factP H 0 (p_ + 1)).2.1)) T (upA A 1 (wrL a (A 1) (((factP H 0 (p_ + 1)).2.2 ++ (if (factP H 0 (p_ + 1)).1 = true then [Sum.inr 0] else ([] : List xI))).map encR)))
              rw [enc_if, show fP F ((factP H 0 (p_ + 1)).1, (factP H 0 (p_ + 1)).2.1) = (upd (fP (upd (upd (upd F 8 0) 9 5) 6 (nI (p_ + 1))) ((factP H 0 (p_ + 1)).1, (factP H 0 (p_ + 1)).2.1)) 9 4) from (F_ext (by first | rfl | exact hF6_.symm) (by first | rfl | exact hF8_.symm) (by first | rfl | exact h9) (fun j q6 q8 q9 => by simp only [fP, upd, if_neg q6, if_neg q8, if_neg q9]))]
              exact hP27
          · skip
            exact absurd c61 (by decide)
        · skip
          exact absurd c31 (by decide)
      · skip
        refine e_iload_n (pc := 19) Xc (dT hX7_factor 10 rfl) 0 rfl ?_
        refine e_bipush (v := 40) (pc := 20) Xc (dT hX7_factor 11 rfl) rfl ?_
        refine e_icmp_ne (tgt := 112) (pc := 22) Xc (dT hX7_factor 12 rfl) rfl (fun c22 => ?_) (fun c22 => ?_)
        · skip
          refine e_aload_n (pc := 112) Xc (dT hX7_factor 60 rfl) 1 rfl ?_
          refine e_ldcS (i := 4) (pc := 113) Xc (dT hX7_factor 61 rfl) (by decide) rfl rfl ?_
          have hph29 : PH (A 1) F H nt a n0 := ⟨hp.1, hp.2.1, hp.2.2.1, hp.2.2.2.1, hp.2.2.2.2.1, hp.2.2.2.2.2.1, hp.2.2.2.2.2.2⟩
          refine cl_X7_98 (pc := 115) (k := 0) (n := 0) (S := []) Xc hP.o (c_among hP hph29 (p_) (by omega) ⟨hF6_, hF8_⟩ 4 (by decide)) (dT hX7_factor 62 rfl) rfl (Nat.le_of_ble_eq_true rfl) (Nat.le_of_ble_eq_true rfl) (Nat.le_of_ble_eq_true rfl) rfl (Nat.le_of_ble_eq_true rfl) (fun r30 σ31 hq32 => ?_)
          rcases hq32 with ⟨k4_, hk4_, r30e, hPa4_, hoa4_⟩ | ⟨hk4_, r30e, r30s⟩
          · skip
            have r30e := r30e.symm; subst r30e
            have hkl4_ := amo_lt hk4_
            have hkq4_ : k4_ < 6 := Nat.lt_of_lt_of_le hkl4_ (by decide)
            have hps4_ := hp.2.2.1.lt rfl (amo_ne (by decide) hk4_)
            refine e_istore_n (L' := [(2, .int (nI k4_)), (1, .int (H p_)), (0, .ref m)]) (pc := 118) Xc (dT hX7_factor 63 rfl) (by decide) rfl ?_
            refine e_aload_n (pc := 119) Xc (dT hX7_factor 64 rfl) 2 rfl ?_
            refine e_iload_n (pc := 120) Xc (dT hX7_factor 65 rfl) 0 rfl ?_
            refine e_iconst (v := -1) (pc := 121) Xc (dT hX7_factor 66 rfl) rfl ?_
            refine e_icmp_ne (tgt := 129) (pc := 122) Xc (dT hX7_factor 67 rfl) rfl (fun c122 => ?_) (fun c122 => ?_)
            · skip
              refine e_iconst (v := 0) (pc := 129) Xc (dT hX7_factor 70 rfl) rfl ?_
              refine pf_X7_60 (fs' := olX7 m (upd (upd F 6 (nI (p_ + 1))) 8 0) T) (pc := 130) Xc (dT hX7_factor 71 rfl) (Or.inl rfl) hPa4_.o (Nat.le_of_ble_eq_true rfl) rfl ?_
              refine Ev.gen (fun z => PX7 z m (upd (upd F 6 (nI (p_ + 1))) 8 0) T A) (hPa4_.wf8 (x := 0)) Off.set (fun σ33 hP34 ho35 => ?_)
              refine e_aload_n (pc := 133) Xc (dT hX7_factor 72 rfl) 2 rfl ?_
              refine gf_X7_60 (pc := 134) Xc (dT hX7_factor 73 rfl) hP34.o rfl ?_
              refine e_val (y := 0) rfl ?_
              refine e_if_eq (tgt := 144) (pc := 137) Xc (dT hX7_factor 74 rfl) rfl (fun c137 => ?_) (fun c137 => ?_)
              · skip
                refine e_aload_n (pc := 144) Xc (dT hX7_factor 77 rfl) 2 rfl ?_
                refine e_ldcS (i := 5) (pc := 145) Xc (dT hX7_factor 78 rfl) (by decide) rfl rfl ?_
                have hph36 : PH (A 1) (upd (upd F 6 (nI (p_ + 1))) 8 0) H nt a n0 := ⟨hp.1, hp.2.1, hp.2.2.1, hp.2.2.2.1, hp.2.2.2.2.1, hp.2.2.2.2.2.1, hp.2.2.2.2.2.2⟩
                refine cl_X7_98 (pc := 147) (k := 0) (n := 0) (S := []) Xc hP34.o (c_among hP34 hph36 (p_ + 1) (by omega) ⟨rfl, rfl⟩ 5 (by decide)) (dT hX7_factor 79 rfl) rfl (Nat.le_of_ble_eq_true rfl) (Nat.le_of_ble_eq_true rfl) (Nat.le_of_ble_eq_true rfl) rfl (Nat.le_of_ble_eq_true rfl) (fun r37 σ38 hq39 => ?_)
                rcases hq39 with ⟨k5_, hk5_, r37e, hPa5_, hoa5_⟩ | ⟨hk5_, r37e, r37s⟩
                · skip
                  have r37e := r37e.symm; subst r37e
                  have hkl5_ := amo_lt hk5_
                  have hkq5_ : k5_ < 6 := Nat.lt_of_lt_of_le hkl5_ (by decide)
                  have hps5_ := hp.2.2.1.lt rfl (amo_ne (by decide) hk5_)
                  refine e_istore_n (L' := [(3, .int (nI k5_)), (2, .int (nI k4_)), (1, .int (H p_)), (0, .ref m)]) (pc := 150) Xc (dT hX7_factor 80 rfl) (by decide) rfl ?_
                  refine e_aload_n (pc := 151) Xc (dT hX7_factor 81 rfl) 3 rfl ?_
                  refine e_aload_n (pc := 152) Xc (dT hX7_factor 82 rfl) 3 rfl ?_
                  refine gf_X7_60 (pc := 153) Xc (dT hX7_factor 83 rfl) hPa5_.o rfl ?_
                  refine e_val (y := 0) rfl ?_
                  refine e_if_ne (tgt := 164) (pc := 156) Xc (dT hX7_factor 84 rfl) rfl (fun c156 => ?_) (fun c156 => ?_)
                  · skip
                    exact absurd c156 (by decide)
                  · skip
                    refine e_iload_n (pc := 159) Xc (dT hX7_factor 85 rfl) 0 rfl ?_
                    refine e_iconst (v := -1) (pc := 160) Xc (dT hX7_factor 86 rfl) rfl ?_
                    refine e_icmp_ne (tgt := 168) (pc := 161) Xc (dT hX7_factor 87 rfl) rfl (fun c161 => ?_) (fun c161 => ?_)
                    · skip
                      refine e_iconst (v := 0) (pc := 168) Xc (dT hX7_factor 90 rfl) rfl ?_
                      refine pf_X7_60 (fs' := olX7 m (upd (upd (upd (upd F 6 (nI (p_ + 1))) 8 0) 6 (nI (p_ + 1 + 1))) 8 0) T) (pc := 169) Xc (dT hX7_factor 91 rfl) (Or.inl rfl) hPa5_.o (Nat.le_of_ble_eq_true rfl) rfl ?_
                      refine Ev.gen (fun z => PX7 z m (upd (upd (upd (upd F 6 (nI (p_ + 1))) 8 0) 6 (nI (p_ + 1 + 1))) 8 0) T A) (hPa5_.wf8 (x := 0)) Off.set (fun σ40 hP41 ho42 => ?_)
                      refine e_aload_n (pc := 172) Xc (dT hX7_factor 92 rfl) 3 rfl ?_
                      have hph43 : PH (A 1) (upd (upd (upd (upd F 6 (nI (p_ + 1))) 8 0) 6 (nI (p_ + 1 + 1))) 8 0) H nt a n0 := ⟨hp.1, hp.2.1, hp.2.2.1, hp.2.2.2.1, hp.2.2.2.2.1, hp.2.2.2.2.2.1, hp.2.2.2.2.2.2⟩
                      refine cl_X7_104 (pc := 173) (k := 0) (n := 0) (S := []) Xc hP41.o (c_figures hP41 hph43 (true, p_ + 2) (by show _ ≤ nt; omega) ⟨rfl, rfl⟩) (dT hX7_factor 93 rfl) rfl (Nat.le_of_ble_eq_true rfl) (Nat.le_of_ble_eq_true rfl) (Nat.le_of_ble_eq_true rfl) rfl (Nat.le_of_ble_eq_true rfl) (fun r44 σ45 hq46 => ?_)
                      obtain ⟨r44e, hP47, ho48⟩ := hq46
                      have r44e := r44e.symm; subst r44e
                      refine e_istore (L' := [(4, .int (nI ((figP H (true, p_ + 2)).2))), (3, .int (nI k5_)), (2, .int (nI k4_)), (1, .int (H p_)), (0, .ref m)]) (pc := 176) Xc (dT hX7_factor 94 rfl) (by decide) rfl ?_
                      refine e_aload_n (pc := 178) Xc (dT hX7_factor 95 rfl) 4 rfl ?_
                      refine e_iload_n (pc := 179) Xc (dT hX7_factor 96 rfl) 2 rfl ?_
                      refine e_bipush (v := 8) (pc := 180) Xc (dT hX7_factor 97 rfl) rfl ?_
                      refine e_iload_n (pc := 182) Xc (dT hX7_factor 98 rfl) 1 rfl ?_
                      refine e_imulN (a := 8) (b := k5_) (pc := 183) Xc (dT hX7_factor 99 rfl) ?_
                      refine e_iaddN (a := k4_) (b := 8 * k5_) (pc := 184) Xc (dT hX7_factor 100 rfl) ?_
                      refine e_bipush (v := 32) (pc := 185) Xc (dT hX7_factor 101 rfl) rfl ?_
                      refine e_iload (pc := 187) Xc (dT hX7_factor 102 rfl) 0 rfl ?_
                      refine e_imulN (a := 32) (b := (figP H (true, p_ + 2)).2) (pc := 189) Xc (dT hX7_factor 103 rfl) ?_
                      refine e_iaddN (a := k4_ + (8 * k5_)) (b := 32 * ((figP H (true, p_ + 2)).2)) (pc := 190) Xc (dT hX7_factor 104 rfl) ?_
                      refine e_val (y := encR (.inl (k4_, k5_, (figP H (true, p_ + 2)).2))) rfl ?_
                      have hgf_ := figP_go hp.2.2.1 (s := (true, p_ + 2)) (by show p_ + 2 ≤ nt; omega)
                      have hn_ : n0 ≤ p_ := hn
                      have hph49 : PH (A 1) (fP (upd (upd (upd (upd F 6 (nI (p_ + 1))) 8 0) 6 (nI (p_ + 1 + 1))) 8 0) (figP H (true, p_ + 2)).1) H nt a n0 := ⟨hp.1, hp.2.1, hp.2.2.1, hp.2.2.2.1, hp.2.2.2.2.1, hp.2.2.2.2.2.1, hp.2.2.2.2.2.2⟩
                      refine cl_X7_90 (pc := 191) (k := 0) (n := 0) (S := []) Xc hP47.o (c_emits hP47 hph49 (figP H (true, p_ + 2)).1 hgf_.2.1 ⟨rfl, rfl⟩ (by omega) (encR (.inl (k4_, k5_, (figP H (true, p_ + 2)).2)))) (dT hX7_factor 105 rfl) rfl (Nat.le_of_ble_eq_true rfl) (Nat.le_of_ble_eq_true rfl) (Nat.le_of_ble_eq_true rfl) rfl (Nat.le_of_ble_eq_true rfl) (fun σ51 hq52 => ?_)
                      obtain ⟨hP53, ho54⟩ := hq52
                      refine e_vret (pc := 194) Xc hQ (dT hX7_factor 106 rfl) (Nat.le_refl _) (Nat.le_refl _) ?_
                      rw [show gFa H 1 (true, p_) = ((figP H (true, p_ + 2)).1.1, (figP H (true, p_ + 2)).1.2, if (figP H (true, p_ + 2)).1.1 = true then [.inl (k4_, k5_, (figP H (true, p_ + 2)).2)] else []) from (fa_test c16 c22).trans (te_s hk4_ hk5_)]
                      refine ⟨?_, (((((hoa4_.tr ho35).tr hoa5_).tr ho42).tr ho48).tr ho54)⟩
                      show PX7 _ m (fP F ((figP H (true, p_ + 2)).1.1, (figP H (true, p_ + 2)).1.2)) T (upA A 1 (wrL a (A 1) ((if (figP H (true, p_ + 2)).1.1 = true then [.inl (k4_, k5_, (figP H (true, p_ + 2)).2)] else []).map encR)))
                      rw [show (if (figP H (true, p_ + 2)).1.1 = true then [.inl (k4_, k5_, (figP H (true, p_ + 2)).2)] else []).map encR = (if (figP H (true, p_ + 2)).1.1 = true then [encR (.inl (k4_, k5_, (figP H (true, p_ + 2)).2))] else []) by split <;> rfl, show fP F ((figP H (true, p_ + 2)).1.1, (figP H (true, p_ + 2)).1.2) = (fP (upd (upd (upd (upd F 6 (nI (p_ + 1))) 8 0) 6 (nI (p_ + 1 + 1))) 8 0) (figP H (true, p_ + 2)).1) from (F_ext (by first | rfl | exact hF6_.symm) (by first | rfl | exact hF8_.symm) (by first | rfl | exact h9) (fun j q6 q8 q9 => by simp only [fP, upd, if_neg q6, if_neg q8, if_neg q9]))]
                      exact hP53
                    · skip
                      exact absurd c161 (nI_nneg (by omega) (by decide))
                · skip
                  have r37e := r37e.symm; subst r37e; have r37s := r37s.symm; subst r37s
                  refine e_istore_n (L' := [(3, .int (-1)), (2, .int (nI k4_)), (1, .int (H p_)), (0, .ref m)]) (pc := 150) Xc (dT hX7_factor 80 rfl) (by decide) rfl ?_
                  refine e_aload_n (pc := 151) Xc (dT hX7_factor 81 rfl) 3 rfl ?_
                  refine e_aload_n (pc := 152) Xc (dT hX7_factor 82 rfl) 3 rfl ?_
                  refine gf_X7_60 (pc := 153) Xc (dT hX7_factor 83 rfl) hP34.o rfl ?_
                  refine e_val (y := 0) rfl ?_
                  refine e_if_ne (tgt := 164) (pc := 156) Xc (dT hX7_factor 84 rfl) rfl (fun c156 => ?_) (fun c156 => ?_)
                  · skip
                    exact absurd c156 (by decide)
                  · skip
                    refine e_iload_n (pc := 159) Xc (dT hX7_factor 85 rfl) 0 rfl ?_
                    refine e_iconst (v := -1) (pc := 160) Xc (dT hX7_factor 86 rfl) rfl ?_
                    refine e_icmp_ne (tgt := 168) (pc := 161) Xc (dT hX7_factor 87 rfl) rfl (fun c161 => ?_) (fun c161 => ?_)
                    · skip
                      exact absurd c161 (by decide)
                    · skip
                      refine e_iconst (v := 1) (pc := 164) Xc (dT hX7_factor 88 rfl) rfl ?_
                      refine e_goto (tgt := 169) (pc := 165) Xc (dT hX7_factor 89 rfl) rfl ?_
                      refine pf_X7_60 (fs' := olX7 m (upd (upd (upd F 6 (nI (p_ + 1))) 8 0) 8 1) T) (pc := 169) Xc (dT hX7_factor 91 rfl) (Or.inr rfl) hP34.o (Nat.le_of_ble_eq_true rfl) rfl ?_
                      refine Ev.gen (fun z => PX7 z m (upd (upd (upd F 6 (nI (p_ + 1))) 8 0) 8 1) T A) (hP34.wf8 (x := 1)) Off.set (fun σ55 hP56 ho57 => ?_)
                      refine e_aload_n (pc := 172) Xc (dT hX7_factor 92 rfl) 3 rfl ?_
                      have hph58 : PH (A 1) (upd (upd (upd F 6 (nI (p_ + 1))) 8 0) 8 1) H nt a n0 := ⟨hp.1, hp.2.1, hp.2.2.1, hp.2.2.2.1, hp.2.2.2.2.1, hp.2.2.2.2.2.1, hp.2.2.2.2.2.2⟩
                      refine cl_X7_104 (pc := 173) (k := 0) (n := 0) (S := []) Xc hP56.o (c_figures hP56 hph58 (false, p_ + 1) (by show _ ≤ nt; omega) ⟨rfl, rfl⟩) (dT hX7_factor 93 rfl) rfl (Nat.le_of_ble_eq_true rfl) (Nat.le_of_ble_eq_true rfl) (Nat.le_of_ble_eq_true rfl) rfl (Nat.le_of_ble_eq_true rfl) (fun r59 σ60 hq61 => ?_)
                      obtain ⟨r59e, hP62, ho63⟩ := hq61
                      rw [show figP H (false, p_ + 1) = ((false, p_ + 1), 0) from if_neg (fun q => Bool.noConfusion q.1)] at r59e hP62
                      have r59e := r59e.symm; subst r59e
                      refine e_istore (L' := [(4, .int 0), (3, .int (-1)), (2, .int (nI k4_)), (1, .int (H p_)), (0, .ref m)]) (pc := 176) Xc (dT hX7_factor 94 rfl) (by decide) rfl ?_
                      refine e_aload_n (pc := 178) Xc (dT hX7_factor 95 rfl) 4 rfl ?_
                      refine e_iload_n (pc := 179) Xc (dT hX7_factor 96 rfl) 2 rfl ?_
                      refine e_bipush (v := 8) (pc := 180) Xc (dT hX7_factor 97 rfl) rfl ?_
                      refine e_iload_n (pc := 182) Xc (dT hX7_factor 98 rfl) 1 rfl ?_
                      refine e_imul (pc := 183) Xc (dT hX7_factor 99 rfl) ?_
                      refine e_iadd (pc := 184) Xc (dT hX7_factor 100 rfl) ?_
                      refine e_bipush (v := 32) (pc := 185) Xc (dT hX7_factor 101 rfl) rfl ?_
                      refine e_iload (pc := 187) Xc (dT hX7_factor 102 rfl) 0 rfl ?_
                      refine e_imulN (a := 32) (b := 0) (pc := 189) Xc (dT hX7_factor 103 rfl) ?_
                      refine e_val (y := 0) rfl ?_
                      refine e_iadd (pc := 190) Xc (dT hX7_factor 104 rfl) ?_
                      have hn_ : n0 ≤ p_ := hn
                      have hph64 : PH (A 1) (fP (upd (upd (upd F 6 (nI (p_ + 1))) 8 0) 8 1) (false, p_ + 1)) H nt a n0 := ⟨hp.1, hp.2.1, hp.2.2.1, hp.2.2.2.1, hp.2.2.2.2.1, hp.2.2.2.2.2.1, hp.2.2.2.2.2.2⟩
                      refine cl_X7_90 (pc := 191) (k := 0) (n := 0) (S := []) Xc hP62.o (c_emits hP62 hph64 (false, p_ + 1) (by show _ ≤ nt; omega) ⟨rfl, rfl⟩ (by omega) (((nI k4_) + (8 * (-1))) + 0)) (dT hX7_factor 105 rfl) rfl (Nat.le_of_ble_eq_true rfl) (Nat.le_of_ble_eq_true rfl) (Nat.le_of_ble_eq_true rfl) rfl (Nat.le_of_ble_eq_true rfl) (fun σ66 hq67 => ?_)
                      obtain ⟨hP68, ho69⟩ := hq67
                      have hP68 : PX7 σ66 m (fP (upd (upd (upd F 6 (nI (p_ + 1))) 8 0) 8 1) (false, p_ + 1)) T (upA A 1 (A 1)) := hP68
                      rw [show upA A 1 (A 1) = A from upA_id] at hP68
                      refine e_vret (pc := 194) Xc hQ (dT hX7_factor 106 rfl) (Nat.le_refl _) (Nat.le_refl _) ?_
                      rw [show gFa H 1 (true, p_) = (false, p_ + 1, []) from (fa_test c16 c22).trans (te_n2 hk4_ hk5_)]
                      refine ⟨?_, ((((hoa4_.tr ho35).tr ho57).tr ho63).tr ho69)⟩
                      show PX7 _ m (fP F (false, p_ + 1)) T (upA A 1 (wrL a (A 1) (([]).map encR)))
                      rw [show (upA A 1 (wrL a (A 1) (([] : List xI).map encR))) = A from upA_id, show fP F (false, p_ + 1) = (fP (upd (upd (upd F 6 (nI (p_ + 1))) 8 0) 8 1) (false, p_ + 1)) from (F_ext (by first | rfl | exact hF6_.symm) (by first | rfl | exact hF8_.symm) (by first | rfl | exact h9) (fun j q6 q8 q9 => by simp only [fP, upd, if_neg q6, if_neg q8, if_neg q9]))]
                      exact hP68
              · skip
                exact absurd c137 (by decide)
            · skip
              exact absurd c122 (nI_nneg (by omega) (by decide))
          · skip
            have r30e := r30e.symm; subst r30e; have r30s := r30s.symm; subst r30s
            refine e_istore_n (L' := [(2, .int (-1)), (1, .int (H p_)), (0, .ref m)]) (pc := 118) Xc (dT hX7_factor 63 rfl) (by decide) rfl ?_
            refine e_aload_n (pc := 119) Xc (dT hX7_factor 64 rfl) 2 rfl ?_
            refine e_iload_n (pc := 120) Xc (dT hX7_factor 65 rfl) 0 rfl ?_
            refine e_iconst (v := -1) (pc := 121) Xc (dT hX7_factor 66 rfl) rfl ?_
            refine e_icmp_ne (tgt := 129) (pc := 122) Xc (dT hX7_factor 67 rfl) rfl (fun c122 => ?_) (fun c122 => ?_)
            · skip
              exact absurd c122 (by decide)
            · skip
              refine e_iconst (v := 1) (pc := 125) Xc (dT hX7_factor 68 rfl) rfl ?_
              refine e_goto (tgt := 130) (pc := 126) Xc (dT hX7_factor 69 rfl) rfl ?_
              refine pf_X7_60 (fs' := olX7 m (upd F 8 1) T) (pc := 130) Xc (dT hX7_factor 71 rfl) (Or.inr rfl) hP.o (Nat.le_of_ble_eq_true rfl) rfl ?_
              refine Ev.gen (fun z => PX7 z m (upd F 8 1) T A) (hP.wf8 (x := 1)) Off.set (fun σ70 hP71 ho72 => ?_)
              refine e_aload_n (pc := 133) Xc (dT hX7_factor 72 rfl) 2 rfl ?_
              refine gf_X7_60 (pc := 134) Xc (dT hX7_factor 73 rfl) hP71.o rfl ?_
              refine e_val (y := 1) rfl ?_
              refine e_if_eq (tgt := 144) (pc := 137) Xc (dT hX7_factor 74 rfl) rfl (fun c137 => ?_) (fun c137 => ?_)
              · skip
                exact absurd c137 (by decide)
              · skip
                refine e_iconst (v := 0) (pc := 140) Xc (dT hX7_factor 75 rfl) rfl ?_
                refine e_goto (tgt := 150) (pc := 141) Xc (dT hX7_factor 76 rfl) rfl ?_
                refine e_istore_n (L' := [(3, .int 0), (2, .int (-1)), (1, .int (H p_)), (0, .ref m)]) (pc := 150) Xc (dT hX7_factor 80 rfl) (by decide) rfl ?_
                refine e_aload_n (pc := 151) Xc (dT hX7_factor 81 rfl) 3 rfl ?_
                refine e_aload_n (pc := 152) Xc (dT hX7_factor 82 rfl) 3 rfl ?_
                refine gf_X7_60 (pc := 153) Xc (dT hX7_factor 83 rfl) hP71.o rfl ?_
                refine e_val (y := 1) rfl ?_
                refine e_if_ne (tgt := 164) (pc := 156) Xc (dT hX7_factor 84 rfl) rfl (fun c156 => ?_) (fun c156 => ?_)
                · skip
                  refine e_iconst (v := 1) (pc := 164) Xc (dT hX7_factor 88 rfl) rfl ?_
                  refine e_goto (tgt := 169) (pc := 165) Xc (dT hX7_factor 89 rfl) rfl ?_
                  refine pf_X7_60 (fs' := olX7 m (upd (upd F 8 1) 8 1) T) (pc := 169) Xc (dT hX7_factor 91 rfl) (Or.inr rfl) hP71.o (Nat.le_of_ble_eq_true rfl) rfl ?_
                  refine Ev.gen (fun z => PX7 z m (upd (upd F 8 1) 8 1) T A) (hP71.wf8 (x := 1)) Off.set (fun σ73 hP74 ho75 => ?_)
                  refine e_aload_n (pc := 172) Xc (dT hX7_factor 92 rfl) 3 rfl ?_
                  have hph76 : PH (A 1) (upd (upd F 8 1) 8 1) H nt a n0 := ⟨hp.1, hp.2.1, hp.2.2.1, hp.2.2.2.1, hp.2.2.2.2.1, hp.2.2.2.2.2.1, hp.2.2.2.2.2.2⟩
                  refine cl_X7_104 (pc := 173) (k := 0) (n := 0) (S := []) Xc hP74.o (c_figures hP74 hph76 (false, p_) (by show _ ≤ nt; omega) ⟨hF6_, rfl⟩) (dT hX7_factor 93 rfl) rfl (Nat.le_of_ble_eq_true rfl) (Nat.le_of_ble_eq_true rfl) (Nat.le_of_ble_eq_true rfl) rfl (Nat.le_of_ble_eq_true rfl) (fun r77 σ78 hq79 => ?_)
                  obtain ⟨r77e, hP80, ho81⟩ := hq79
                  rw [show figP H (false, p_) = ((false, p_), 0) from if_neg (fun q => Bool.noConfusion q.1)] at r77e hP80
                  have r77e := r77e.symm; subst r77e
                  refine e_istore (L' := [(4, .int 0), (3, .int 0), (2, .int (-1)), (1, .int (H p_)), (0, .ref m)]) (pc := 176) Xc (dT hX7_factor 94 rfl) (by decide) rfl ?_
                  refine e_aload_n (pc := 178) Xc (dT hX7_factor 95 rfl) 4 rfl ?_
                  refine e_iload_n (pc := 179) Xc (dT hX7_factor 96 rfl) 2 rfl ?_
                  refine e_bipush (v := 8) (pc := 180) Xc (dT hX7_factor 97 rfl) rfl ?_
                  refine e_iload_n (pc := 182) Xc (dT hX7_factor 98 rfl) 1 rfl ?_
                  refine e_imulN (a := 8) (b := 0) (pc := 183) Xc (dT hX7_factor 99 rfl) ?_
                  refine e_val (y := 0) rfl ?_
                  refine e_iadd (pc := 184) Xc (dT hX7_factor 100 rfl) ?_
                  refine e_bipush (v := 32) (pc := 185) Xc (dT hX7_factor 101 rfl) rfl ?_
                  refine e_iload (pc := 187) Xc (dT hX7_factor 102 rfl) 0 rfl ?_
                  refine e_imulN (a := 32) (b := 0) (pc := 189) Xc (dT hX7_factor 103 rfl) ?_
                  refine e_val (y := 0) rfl ?_
                  refine e_iadd (pc := 190) Xc (dT hX7_factor 104 rfl) ?_
                  have hn_ : n0 ≤ p_ := hn
                  have hph82 : PH (A 1) (fP (upd (upd F 8 1) 8 1) (false, p_)) H nt a n0 := ⟨hp.1, hp.2.1, hp.2.2.1, hp.2.2.2.1, hp.2.2.2.2.1, hp.2.2.2.2.2.1, hp.2.2.2.2.2.2⟩
                  refine cl_X7_90 (pc := 191) (k := 0) (n := 0) (S := []) Xc hP80.o (c_emits hP80 hph82 (false, p_) (by show _ ≤ nt; omega) ⟨rfl, rfl⟩ (by omega) (((-1) + 0) + 0)) (dT hX7_factor 105 rfl) rfl (Nat.le_of_ble_eq_true rfl) (Nat.le_of_ble_eq_true rfl) (Nat.le_of_ble_eq_true rfl) rfl (Nat.le_of_ble_eq_true rfl) (fun σ84 hq85 => ?_)
                  obtain ⟨hP86, ho87⟩ := hq85
                  have hP86 : PX7 σ84 m (fP (upd (upd F 8 1) 8 1) (false, p_)) T (upA A 1 (A 1)) := hP86
                  rw [show upA A 1 (A 1) = A from upA_id] at hP86
                  refine e_vret (pc := 194) Xc hQ (dT hX7_factor 106 rfl) (Nat.le_refl _) (Nat.le_refl _) ?_
                  rw [show gFa H 1 (true, p_) = (false, p_, []) from (fa_test c16 c22).trans (te_n1 hk4_)]
                  refine ⟨?_, (((ho72.tr ho75).tr ho81).tr ho87)⟩
                  show PX7 _ m (fP F (false, p_)) T (upA A 1 (wrL a (A 1) (([]).map encR)))
                  rw [show (upA A 1 (wrL a (A 1) (([] : List xI).map encR))) = A from upA_id, show fP F (false, p_) = (fP (upd (upd F 8 1) 8 1) (false, p_)) from (F_ext (by first | rfl | exact hF6_.symm) (by first | rfl | exact hF8_.symm) (by first | rfl | exact h9) (fun j q6 q8 q9 => by simp only [fP, upd, if_neg q6, if_neg q8, if_neg q9]))]
                  exact hP86
                · skip
                  exact absurd c156 (by decide)
        · skip
          refine e_aload_n (pc := 25) Xc (dT hX7_factor 13 rfl) 1 rfl ?_
          refine e_aload_n (pc := 26) Xc (dT hX7_factor 14 rfl) 1 rfl ?_
          refine gf_X7_84 (pc := 27) Xc (dT hX7_factor 15 rfl) hP.o rfl ?_
          refine e_val (y := 4) h9 ?_
          refine e_iconst (v := 5) (pc := 30) Xc (dT hX7_factor 16 rfl) rfl ?_
          refine e_icmp_neN (x := 4) (y := 5) (tgt := 38) (pc := 31) Xc (dT hX7_factor 17 rfl) rfl (by omega) (by omega) (fun c31 => ?_) (fun c31 => ?_)
          · skip
            refine e_iconst (v := 0) (pc := 38) Xc (dT hX7_factor 20 rfl) rfl ?_
            refine pf_X7_60 (fs' := olX7 m (upd F 8 0) T) (pc := 39) Xc (dT hX7_factor 21 rfl) (Or.inl rfl) hP.o (Nat.le_of_ble_eq_true rfl) rfl ?_
            refine Ev.gen (fun z => PX7 z m (upd F 8 0) T A) (hP.wf8 (x := 0)) Off.set (fun σ88 hP89 ho90 => ?_)
            refine e_aload_n (pc := 42) Xc (dT hX7_factor 22 rfl) 1 rfl ?_
            refine e_dup (pc := 43) Xc (dT hX7_factor 23 rfl) rfl ?_
            refine gf_X7_84 (pc := 44) Xc (dT hX7_factor 24 rfl) hP89.o rfl ?_
            refine e_val (y := F 9) rfl ?_
            refine e_val (y := 4) h9 ?_
            refine e_iconst (v := 1) (pc := 47) Xc (dT hX7_factor 25 rfl) rfl ?_
            refine e_iaddN (a := 4) (b := 1) (pc := 48) Xc (dT hX7_factor 26 rfl) ?_
            refine e_val (y := 5) rfl ?_
            refine pf_X7_84 (fs' := olX7 m (upd (upd F 8 0) 9 5) T) (pc := 49) Xc (dT hX7_factor 27 rfl) hP89.o (Nat.le_of_ble_eq_true rfl) rfl ?_
            refine Ev.gen (fun z => PX7 z m (upd (upd F 8 0) 9 5) T A) (hP89.wf9 (x := 5)) Off.set (fun σ91 hP92 ho93 => ?_)
            refine e_aload_n (pc := 52) Xc (dT hX7_factor 28 rfl) 1 rfl ?_
            refine e_dup (pc := 53) Xc (dT hX7_factor 29 rfl) rfl ?_
            refine gf_X7_54 (pc := 54) Xc (dT hX7_factor 30 rfl) hP92.o rfl ?_
            refine e_val (y := F 6) rfl ?_
            refine e_val (y := nI p_) hF6_ ?_
            refine e_aload_n (pc := 57) Xc (dT hX7_factor 31 rfl) 1 rfl ?_
            refine gf_X7_60 (pc := 58) Xc (dT hX7_factor 32 rfl) hP92.o rfl ?_
            refine e_val (y := 0) rfl ?_
            refine e_if_eq (tgt := 68) (pc := 61) Xc (dT hX7_factor 33 rfl) rfl (fun c61 => ?_) (fun c61 => ?_)
            · skip
              refine e_iconst (v := 1) (pc := 68) Xc (dT hX7_factor 36 rfl) rfl ?_
              refine e_iaddN (a := p_) (b := 1) (pc := 69) Xc (dT hX7_factor 37 rfl) ?_
              refine pf_X7_54 (fs' := olX7 m (upd (upd (upd F 8 0) 9 5) 6 (nI (p_ + 1))) T) (pc := 70) Xc (dT hX7_factor 38 rfl) hP92.o (Nat.le_of_ble_eq_true rfl) rfl ?_
              refine Ev.gen (fun z => PX7 z m (upd (upd (upd F 8 0) 9 5) 6 (nI (p_ + 1))) T A) (hP92.wf6 (x := nI (p_ + 1))) Off.set (fun σ94 hP95 ho96 => ?_)
              refine e_iload_n (pc := 73) Xc (dT hX7_factor 39 rfl) 0 rfl ?_
              refine e_bipush (v := 33) (pc := 74) Xc (dT hX7_factor 40 rfl) rfl ?_
              refine e_icmp_ne (tgt := 91) (pc := 76) Xc (dT hX7_factor 41 rfl) rfl (fun c76 => ?_) (fun c76 => ?_)
              · skip
                refine e_aload_n (pc := 91) Xc (dT hX7_factor 48 rfl) 1 rfl ?_
                have hlt_ := hp.2.2.1.lt c22 (by decide)
                have hn_ : n0 ≤ p_ := hn
                have hph97 : PH (A 1) (upd (upd (upd F 8 0) 9 5) 6 (nI (p_ + 1))) H nt a n0 := ⟨hp.1, hp.2.1, hp.2.2.1, hp.2.2.2.1, hp.2.2.2.2.1, hp.2.2.2.2.2.1, hp.2.2.2.2.2.2⟩
                refine cl_X7_93 (pc := 92) (k := 0) (n := 0) (S := []) Xc hP95.o (c_some0 hP95 hph97 (true, p_ + 1) (by show p_ + 1 ≤ nt; omega) ⟨rfl, rfl⟩ (by show n0 ≤ p_ + 1; omega) rfl) (dT hX7_factor 49 rfl) rfl (Nat.le_of_ble_eq_true rfl) (Nat.le_of_ble_eq_true rfl) (Nat.le_of_ble_eq_true rfl) rfl (Nat.le_of_ble_eq_true rfl) (fun σ99 hq100 => ?_)
                obtain ⟨hP101, ho102⟩ := hq100
                have hP101 : PX7 σ99 m (fP (upd (upd (upd F 8 0) 9 5) 6 (nI (p_ + 1))) ((eofP H (factP H 0) (p_ + 1)).1, (eofP H (factP H 0) (p_ + 1)).2.1)) T (upA A 1 (wrL a (A 1) ((eofP H (factP H 0) (p_ + 1)).2.2.map encR))) := hP101
                obtain ⟨hg1_, hg2_, hg3_, hg4_⟩ : goP nt (p_ + 1) (eofP H (factP H 0) (p_ + 1)) := eofP_go hp.2.2.1 (fun q hq => factP_go hp.2.2.1 0 q hq) (by omega)
                have hll_ : ((eofP H (factP H 0) (p_ + 1)).2.2.map encR).length = (eofP H (factP H 0) (p_ + 1)).2.2.length := List.length_map _
                refine e_aload_n (pc := 95) Xc (dT hX7_factor 50 rfl) 1 rfl ?_
                refine e_bipush (v := 41) (pc := 96) Xc (dT hX7_factor 51 rfl) rfl ?_
                have hph103 : PH (wrL a (A 1) ((eofP H (factP H 0) (p_ + 1)).2.2.map encR)) (fP (upd (upd (upd F 8 0) 9 5) 6 (nI (p_ + 1))) ((eofP H (factP H 0) (p_ + 1)).1, (eofP H (factP H 0) (p_ + 1)).2.1)) H nt a (n0 + ((eofP H (factP H 0) (p_ + 1)).2.2.map encR).length) := ⟨hp.1, hp.2.1, hp.2.2.1, fun q hq => (wrL_lo (by omega) _ _).trans (hp.2.2.2.1 q hq), hp.2.2.2.2.1, hp.2.2.2.2.2.1, wrL_n _ _ _ hp.2.2.2.2.2.2⟩
                refine cl_X7_77 (pc := 98) (k := 0) (n := 0) (S := []) Xc hP101.o (c_must hP101 hph103 ((eofP H (factP H 0) (p_ + 1)).1, (eofP H (factP H 0) (p_ + 1)).2.1) hg2_ ⟨rfl, rfl⟩ 41) (dT hX7_factor 52 rfl) rfl (Nat.le_of_ble_eq_true rfl) (Nat.le_of_ble_eq_true rfl) (Nat.le_of_ble_eq_true rfl) rfl (Nat.le_of_ble_eq_true rfl) (fun σ105 hq106 => ?_)
                obtain ⟨hP107, ho108⟩ := hq106
                have hP107 : PX7 σ105 m (fP (fP (upd (upd (upd F 8 0) 9 5) 6 (nI (p_ + 1))) ((eofP H (factP H 0) (p_ + 1)).1, (eofP H (factP H 0) (p_ + 1)).2.1)) (mustP H 41 ((eofP H (factP H 0) (p_ + 1)).1, (eofP H (factP H 0) (p_ + 1)).2.1))) T (upA A 1 (wrL a (A 1) ((eofP H (factP H 0) (p_ + 1)).2.2.map encR))) := hP107
                refine e_aload_n (pc := 101) Xc (dT hX7_factor 53 rfl) 1 rfl ?_
                refine e_dup (pc := 102) Xc (dT hX7_factor 54 rfl) rfl ?_
                refine gf_X7_84 (pc := 103) Xc (dT hX7_factor 55 rfl) hP107.o rfl ?_
                refine e_val (y := 5) rfl ?_
                refine e_iconst (v := 1) (pc := 106) Xc (dT hX7_factor 56 rfl) rfl ?_
                refine e_isubN (a := 5) (b := 1) (pc := 107) Xc (dT hX7_factor 57 rfl) (by omega) ?_
                refine e_val (y := 4) rfl ?_
                refine pf_X7_84 (fs' := olX7 m (upd (fP (fP (upd (upd (upd F 8 0) 9 5) 6 (nI (p_ + 1))) ((eofP H (factP H 0) (p_ + 1)).1, (eofP H (factP H 0) (p_ + 1)).2.1)) (mustP H 41 ((eofP H (factP H 0) (p_ + 1)).1, (eofP H (factP H 0) (p_ + 1)).2.1))) 9 4) T) (pc := 108) Xc (dT hX7_factor 58 rfl) hP107.o (Nat.le_of_ble_eq_true rfl) rfl ?_
                refine Ev.gen (fun z => PX7 z m (upd (fP (fP (upd (upd (upd F 8 0) 9 5) 6 (nI (p_ + 1))) ((eofP H (factP H 0) (p_ + 1)).1, (eofP H (factP H 0) (p_ + 1)).2.1)) (mustP H 41 ((eofP H (factP H 0) (p_ + 1)).1, (eofP H (factP H 0) (p_ + 1)).2.1))) 9 4) T (upA A 1 (wrL a (A 1) ((eofP H (factP H 0) (p_ + 1)).2.2.map encR)))) (hP107.wf9 (x := 4)) Off.set (fun σ109 hP110 ho111 => ?_)
                refine e_vret (pc := 111) Xc hQ (dT hX7_factor 59 rfl) (Nat.le_refl _) (Nat.le_refl _) ?_
                rw [show gFa H 1 (true, p_) = ((mustP H 41 ((eofP H (factP H 0) (p_ + 1)).1, (eofP H (factP H 0) (p_ + 1)).2.1)).1, (mustP H 41 ((eofP H (factP H 0) (p_ + 1)).1, (eofP H (factP H 0) (p_ + 1)).2.1)).2, (eofP H (factP H 0) (p_ + 1)).2.2) from fa_par c16 c22]
                refine ⟨?_, (((((ho90.tr ho93).tr ho96).tr ho102).tr ho108).tr ho111)⟩
                show PX7 _ m (fP F ((mustP H 41 ((eofP H (factP H 0) (p_ + 1)).1, (eofP H (factP H 0) (p_ + 1)).2.1)).1, (mustP H 41 ((eofP H (factP H 0) (p_ + 1)).1, (eofP H (factP H 0) (p_ + 1)).2.1)).2)) T (upA A 1 (wrL a (A 1) (((eofP H (factP H 0) (p_ + 1)).2.2).map encR)))
                rw [show fP F ((mustP H 41 ((eofP H (factP H 0) (p_ + 1)).1, (eofP H (factP H 0) (p_ + 1)).2.1)).1, (mustP H 41 ((eofP H (factP H 0) (p_ + 1)).1, (eofP H (factP H 0) (p_ + 1)).2.1)).2) = (upd (fP (fP (upd (upd (upd F 8 0) 9 5) 6 (nI (p_ + 1))) ((eofP H (factP H 0) (p_ + 1)).1, (eofP H (factP H 0) (p_ + 1)).2.1)) (mustP H 41 ((eofP H (factP H 0) (p_ + 1)).1, (eofP H (factP H 0) (p_ + 1)).2.1))) 9 4) from (F_ext (by first | rfl | exact hF6_.symm) (by first | rfl | exact hF8_.symm) (by first | rfl | exact h9) (fun j q6 q8 q9 => by simp only [fP, upd, if_neg q6, if_neg q8, if_neg q9]))]
                exact hP110
              · skip
                exact absurd c76 c16
            · skip
              exact absurd c61 (by decide)
          · skip
            exact absurd c31 (by decide)
    · skip
      exact absurd c4 (by decide)
