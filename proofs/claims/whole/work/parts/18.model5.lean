set_option maxRecDepth 100000 in
set_option maxHeartbeats 4000000 in
theorem c_goes {G : xG} {σ : xS} {m : Nat} {F : Nat → Int32} {T : Nat → Nat} {A : Nat → Nat → Int32} (hP : PX7 σ m F T A) {nr nb : Nat} (hG : Gd (A 1) nr nb) {t : xT} (hT : Hd (A 1) t) : CI G yX7_goes cX7_goes 3 (some .int) 5 0 0 [.ref m] σ (fun z σ1 => z = (goF (A 1) t nr nb).1 ∧ PX7 σ1 m F T (upA A 1 (goF (A 1) t nr nb).2) ∧ Off m σ σ1) := by
  refine Met.ofX (by decide +kernel) (Nat.le_of_ble_eq_true rfl) (fun μ Xc hQ hnm => ?_)
  have Xc : xC G μ cX7_goes 3 RX7 (some .int) 5 0 0 := Xc
  have lp4 : ∀ (n4 : Nat) (r : Nat) (ac : Int32) (X1 : Nat → Int32) (σ2 : xS), nr - r < n4 → (r ≤ nr) → ((ac, X1) = itr (goStep t nr nb) (0, A 1) r) → (Gd X1 nr nb) → (Hd X1 t) → (PX7 σ2 m F T (upA A 1 X1)) → (Off m σ σ2) → Ev G μ 3 0 0 4 [(0, .ref m), (2, .int (nI r)), (1, .int ac)] [] σ2 := by
    intro n4
    induction n4 with
    | zero => intro r ac X1 σ2 hn; exact absurd hn (Nat.not_lt_zero _)
    | succ n4 ih4 =>
      intro r ac X1 σ2 hn4 hr hq hG1 hT1 hp ho
      refine e_iload_n (pc := 4) Xc (dT hX7_goes 4 rfl) 1 rfl ?_
      refine e_aload_n (pc := 5) Xc (dT hX7_goes 5 rfl) 0 rfl ?_
      refine gf_X7_9 (pc := 6) Xc (dT hX7_goes 6 rfl) hp.o rfl ?_
      refine e_bipush (v := 12) (pc := 9) Xc (dT hX7_goes 7 rfl) rfl ?_
      refine e_ialdN (pc := 11) Xc (dT hX7_goes 8 rfl) hp.a1 (by decide) rfl 12 rfl (by have := hG.1; omega) (by decide) ?_
      refine e_val (y := X1 12) rfl ?_
      refine e_val (y := nI nr) hG1.1.2.2.1 ?_
      refine e_icmp_geN (x := r) (y := nr) (tgt := 37) (pc := 12) Xc (dT hX7_goes 9 rfl) rfl (by have := hG.1; omega) (by have := hG.1; omega) (fun c12 => ?_) (fun c12 => ?_)
      · skip
        refine e_aload_n (pc := 37) Xc (dT hX7_goes 22 rfl) 0 rfl ?_
        refine gf_X7_9 (pc := 38) Xc (dT hX7_goes 23 rfl) hp.o rfl ?_
        refine e_iconst (v := 0) (pc := 41) Xc (dT hX7_goes 24 rfl) rfl ?_
        refine e_dup2 (pc := 42) Xc (dT hX7_goes 25 rfl) rfl rfl ?_
        refine e_ialdN (pc := 43) Xc (dT hX7_goes 26 rfl) hp.a1 (by decide) rfl 0 rfl (by have := hG.1; omega) (by decide) ?_
        refine e_val (y := X1 0) rfl ?_
        refine e_iconst (v := 1) (pc := 44) Xc (dT hX7_goes 27 rfl) rfl ?_
        refine e_iadd (pc := 45) Xc (dT hX7_goes 28 rfl) ?_
        refine e_iastN (pc := 46) Xc (dT hX7_goes 29 rfl) hp.a1 rfl 0 rfl (by have := hG.1; omega) (by decide) ?_
        refine Ev.gen (fun z => PX7 z m F T (upA (upA A 1 X1) 1 (upd X1 0 ((X1 0) + 1)))) (hp.wa1 (g := (upd X1 0 ((X1 0) + 1)))) Off.set (fun σ1 hP2 ho3 => ?_)
        have hP2 : PX7 σ1 m F T (upA A 1 (upd X1 0 ((X1 0) + 1))) := by rw [upA_2] at hP2; exact hP2
        refine e_iload_n (pc := 47) Xc (dT hX7_goes 30 rfl) 2 rfl ?_
        refine e_iret (pc := 48) Xc hQ (dT hX7_goes 31 rfl) (Nat.le_refl _) (Nat.le_refl _) ?_
        have hre : r = nr := by omega
        subst hre
        have hq' : goAll (A 1) t r nb = (ac, X1) := hq.symm
        exact ⟨by rw [goF, hq'], by rw [goF, hq']; exact hP2, (ho.tr ho3)⟩
      · skip
        refine e_iload_n (pc := 15) Xc (dT hX7_goes 10 rfl) 2 rfl ?_
        refine e_aload_n (pc := 16) Xc (dT hX7_goes 11 rfl) 0 rfl ?_
        refine e_iload_n (pc := 17) Xc (dT hX7_goes 12 rfl) 1 rfl ?_
        refine cl_X7_189 (pc := 18) (k := 0) (n := 0) (S := [.int ac]) Xc hp.o (c_comes hp hG1 hT1 r (by omega)) (dT hX7_goes 13 rfl) rfl (Nat.le_of_ble_eq_true rfl) (Nat.le_of_ble_eq_true rfl) (Nat.le_of_ble_eq_true rfl) rfl (Nat.le_of_ble_eq_true rfl) (fun r4 σ5 hq6 => ?_)
        obtain ⟨r4e, hP7, ho8⟩ := hq6
        have r4e := r4e.symm; subst r4e
        have hP7 : PX7 σ5 m F T (upA A 1 (comeF X1 t nr nb r)) := by rw [upA_2] at hP7; exact hP7
        refine e_val (y := bI (decide (choF X1 t nr nb r ≠ -1))) rfl ?_
        refine e_if_eq (tgt := 28) (pc := 21) Xc (dT hX7_goes 14 rfl) rfl (fun c21 => ?_) (fun c21 => ?_)
        · skip
          refine e_iconst (v := 0) (pc := 28) Xc (dT hX7_goes 17 rfl) rfl ?_
          refine e_iadd (pc := 29) Xc (dT hX7_goes 18 rfl) ?_
          refine e_istore_n (L' := [(1, .int (ac + 0)), (0, .ref m), (2, .int (nI r))]) (pc := 30) Xc (dT hX7_goes 19 rfl) (by decide) rfl ?_
          refine e_iincN (a := r) (b := 1) (L' := [(2, .int (nI (r + 1))), (1, .int (ac + 0)), (0, .ref m)]) (pc := 31) Xc (dT hX7_goes 20 rfl) 2 rfl rfl (by decide) rfl ?_
          refine e_goto (tgt := 4) (pc := 34) Xc (dT hX7_goes 21 rfl) rfl ?_
          refine Ev.pick (L' := [(0, .ref m), (2, .int (nI (r + 1))), (1, .int (ac + 0))]) [2, 0, 1] rfl ?_
          exact ih4 (r + 1) (ac + 0) (comeF X1 t nr nb r) σ5 (by omega) (by omega) (by rw [itr, ← hq, goStep]; simp only [bI_0] at c21; simp at c21; simp [c21]) (Gd.come hG1 (by omega)) (Hd.come hT1 hG1.r4 (by omega)) hP7 (ho.tr ho8)
        · skip
          refine e_iconst (v := 1) (pc := 24) Xc (dT hX7_goes 15 rfl) rfl ?_
          refine e_goto (tgt := 29) (pc := 25) Xc (dT hX7_goes 16 rfl) rfl ?_
          refine e_iadd (pc := 29) Xc (dT hX7_goes 18 rfl) ?_
          refine e_istore_n (L' := [(1, .int (ac + 1)), (0, .ref m), (2, .int (nI r))]) (pc := 30) Xc (dT hX7_goes 19 rfl) (by decide) rfl ?_
          refine e_iincN (a := r) (b := 1) (L' := [(2, .int (nI (r + 1))), (1, .int (ac + 1)), (0, .ref m)]) (pc := 31) Xc (dT hX7_goes 20 rfl) 2 rfl rfl (by decide) rfl ?_
          refine e_goto (tgt := 4) (pc := 34) Xc (dT hX7_goes 21 rfl) rfl ?_
          refine Ev.pick (L' := [(0, .ref m), (2, .int (nI (r + 1))), (1, .int (ac + 1))]) [2, 0, 1] rfl ?_
          exact ih4 (r + 1) (ac + 1) (comeF X1 t nr nb r) σ5 (by omega) (by omega) (by rw [itr, ← hq, goStep]; simp only [bI_0] at c21; simp at c21; simp [c21]) (Gd.come hG1 (by omega)) (Hd.come hT1 hG1.r4 (by omega)) hP7 (ho.tr ho8)
  show Ev G μ 3 0 0 0 [(0, .ref m)] [] σ
  refine e_iconst (v := 0) (pc := 0) Xc (dT hX7_goes 0 rfl) rfl ?_
  refine e_istore_n (L' := [(1, .int 0), (0, .ref m)]) (pc := 1) Xc (dT hX7_goes 1 rfl) (by decide) rfl ?_
  refine e_iconst (v := 0) (pc := 2) Xc (dT hX7_goes 2 rfl) rfl ?_
  refine e_istore_n (L' := [(2, .int 0), (1, .int 0), (0, .ref m)]) (pc := 3) Xc (dT hX7_goes 3 rfl) (by decide) rfl ?_
  refine Ev.pick (L' := [(0, .ref m), (2, .int 0), (1, .int 0)]) [2, 0, 1] rfl ?_
  exact lp4 ((nr - 0) + 1) 0 0 (A 1) σ (Nat.lt_succ_self _) (Nat.zero_le _) rfl hG hT (by rw [upA_id]; exact hP) Off.rf
set_option maxRecDepth 100000 in
set_option maxHeartbeats 4000000 in
theorem c_goesOn {G : xG} {σ : xS} {m : Nat} {F : Nat → Int32} {T : Nat → Nat} {A : Nat → Nat → Int32} (hP : PX7 σ m F T A) {nr nb : Nat} (hG : Gd (A 1) nr nb) {t : xT} (hT : Hd (A 1) t) (k : Nat) (hk : k ≤ 40) : CV G yX7_goesOn cX7_goesOn 3 none 6 0 0 [.ref m, .int (nI k)] σ (fun σ1 => PX7 σ1 m F T (upA A 1 (daysF (A 1) t nr nb k).2) ∧ Off m σ σ1) := by
  refine Met.ofX (by decide +kernel) (Nat.le_of_ble_eq_true rfl) (fun μ Xc hQ hnm => ?_)
  have Xc : xC G μ cX7_goesOn 3 RX7 none 6 0 0 := Xc
  have lp2 : ∀ (n2 : Nat) (i : Nat) (X1 : Nat → Int32) (σ2 : xS), k - i < n2 → (i ≤ k) → (X1 = (daysF (A 1) t nr nb i).2) → (Gd X1 nr nb) → (Hd X1 t) → (PX7 σ2 m F T (upA A 1 X1)) → (Off m σ σ2) → Ev G μ 3 0 0 2 [(0, .ref m), (1, .int (nI k)), (2, .int (nI i))] [] σ2 := by
    intro n2
    induction n2 with
    | zero => intro i X1 σ2 hn; exact absurd hn (Nat.not_lt_zero _)
    | succ n2 ih2 =>
      intro i X1 σ2 hn2 hi hq hG1 hT1 hp ho
      refine e_iload_n (pc := 2) Xc (dT hX7_goesOn 2 rfl) 2 rfl ?_
      refine e_iload_n (pc := 3) Xc (dT hX7_goesOn 3 rfl) 1 rfl ?_
      refine e_icmp_geN (x := i) (y := k) (tgt := 18) (pc := 4) Xc (dT hX7_goesOn 4 rfl) rfl (by have := hG.1; omega) (by have := hG.1; omega) (fun c4 => ?_) (fun c4 => ?_)
      · skip
        refine e_vret (pc := 18) Xc hQ (dT hX7_goesOn 10 rfl) (Nat.le_refl _) (Nat.le_refl _) ?_
        have hie : i = k := by omega
        subst hie
        rw [← hq]
        exact ⟨hp, ho⟩
      · skip
        refine e_aload_n (pc := 7) Xc (dT hX7_goesOn 5 rfl) 0 rfl ?_
        refine cl_X7_199 (pc := 8) (k := 0) (n := 0) (S := []) Xc hp.o (c_goes hp hG1 hT1) (dT hX7_goesOn 6 rfl) rfl (Nat.le_of_ble_eq_true rfl) (Nat.le_of_ble_eq_true rfl) (Nat.le_of_ble_eq_true rfl) rfl (Nat.le_of_ble_eq_true rfl) (fun r1 σ2 hq3 => ?_)
        obtain ⟨r1e, hP4, ho5⟩ := hq3
        have r1e := r1e.symm; subst r1e
        have hP4 : PX7 σ2 m F T (upA A 1 ((goF X1 t nr nb).2)) := by rw [upA_2] at hP4; exact hP4
        refine e_val (y := (goF X1 t nr nb).1) rfl ?_
        refine e_pop (pc := 11) Xc (dT hX7_goesOn 7 rfl) rfl ?_
        refine e_iincN (a := i) (b := 1) (L' := [(2, .int (nI (i + 1))), (0, .ref m), (1, .int (nI k))]) (pc := 12) Xc (dT hX7_goesOn 8 rfl) 2 rfl rfl (by decide) rfl ?_
        refine e_goto (tgt := 2) (pc := 15) Xc (dT hX7_goesOn 9 rfl) rfl ?_
        refine Ev.pick (L' := [(0, .ref m), (1, .int (nI k)), (2, .int (nI (i + 1)))]) [1, 2, 0] rfl ?_
        exact ih2 (i + 1) ((goF X1 t nr nb).2) σ2 (by omega) (by omega) (by rw [hq]; rfl) (Gd.go hG1 hT1) (Hd.go hT1 hG1) hP4 (ho.tr ho5)
  show Ev G μ 3 0 0 0 [(0, .ref m), (1, .int (nI k))] [] σ
  refine e_iconst (v := 0) (pc := 0) Xc (dT hX7_goesOn 0 rfl) rfl ?_
  refine e_istore_n (L' := [(2, .int 0), (0, .ref m), (1, .int (nI k))]) (pc := 1) Xc (dT hX7_goesOn 1 rfl) (by decide) rfl ?_
  refine Ev.pick (L' := [(0, .ref m), (1, .int (nI k)), (2, .int 0)]) [1, 2, 0] rfl ?_
  exact lp2 ((k - 0) + 1) 0 (A 1) σ (Nat.lt_succ_self _) (Nat.zero_le _) rfl hG hT (by rw [upA_id]; exact hP) Off.rf
set_option maxRecDepth 100000 in
set_option maxHeartbeats 4000000 in
theorem c_pastes {G : xG} {σ : xS} {m : Nat} {F : Nat → Int32} {T : Nat → Nat} {A : Nat → Nat → Int32} (hP : PX7 σ m F T A) {nr nb : Nat} (hG : Gd (A 1) nr nb) (r : Nat) (hr : r < nr) (is : Int32) : CV G yX7_pastes cX7_pastes 4 none 2 0 0 [.ref m, .int (nI r), .int is] σ (fun σ1 => PX7 σ1 m F T (upA A 1 (pastF (A 1) r is)) ∧ Off m σ σ1) := by
  refine Met.ofX (by decide +kernel) (Nat.le_of_ble_eq_true rfl) (fun μ Xc hQ hnm => ?_)
  have Xc : xC G μ cX7_pastes 4 RX7 none 2 0 0 := Xc
  show Ev G μ 4 0 0 0 [(0, .ref m), (1, .int (nI r)), (2, .int is)] [] σ
  refine e_aload_n (pc := 0) Xc (dT hX7_pastes 0 rfl) 0 rfl ?_
  refine gf_X7_9 (pc := 1) Xc (dT hX7_pastes 1 rfl) hP.o rfl ?_
  refine e_iconst (v := 1) (pc := 4) Xc (dT hX7_pastes 2 rfl) rfl ?_
  refine e_iload_n (pc := 5) Xc (dT hX7_pastes 3 rfl) 1 rfl ?_
  refine e_iaddN (a := 1) (b := r) (pc := 6) Xc (dT hX7_pastes 4 rfl) ?_
  refine e_ialdN (pc := 7) Xc (dT hX7_pastes 5 rfl) hP.a1 (by decide) rfl (1 + r) rfl (by have := hG.1; omega) (by decide) ?_
  refine e_istore_n (L' := [(3, .int (A 1 (1 + r))), (0, .ref m), (1, .int (nI r)), (2, .int is)]) (pc := 8) Xc (dT hX7_pastes 6 rfl) (by decide) rfl ?_
  refine e_iload_n (pc := 9) Xc (dT hX7_pastes 7 rfl) 0 rfl ?_
  refine e_iconst (v := -1) (pc := 10) Xc (dT hX7_pastes 8 rfl) rfl ?_
  refine e_icmp_eq (tgt := 53) (pc := 11) Xc (dT hX7_pastes 9 rfl) rfl (fun c11 => ?_) (fun c11 => ?_)
  · skip
    refine e_vret (pc := 53) Xc hQ (dT hX7_pastes 34 rfl) (Nat.le_refl _) (Nat.le_refl _) ?_
    exact ⟨by rw [pastF, if_pos c11, upA_id]; exact hP, Off.rf⟩
  · skip
    obtain ⟨h, hl, he⟩ := hG.has (by omega) c11
    refine e_aload_n (pc := 14) Xc (dT hX7_pastes 10 rfl) 1 rfl ?_
    refine gf_X7_9 (pc := 15) Xc (dT hX7_pastes 11 rfl) hP.o rfl ?_
    refine e_iconst (v := 5) (pc := 18) Xc (dT hX7_pastes 12 rfl) rfl ?_
    refine e_iload_n (pc := 19) Xc (dT hX7_pastes 13 rfl) 0 rfl ?_
    refine e_val (y := nI h) he ?_
    refine e_iaddN (a := 5) (b := h) (pc := 20) Xc (dT hX7_pastes 14 rfl) ?_
    refine e_aload_n (pc := 21) Xc (dT hX7_pastes 15 rfl) 1 rfl ?_
    refine gf_X7_9 (pc := 22) Xc (dT hX7_pastes 16 rfl) hP.o rfl ?_
    refine e_iconst (v := 5) (pc := 25) Xc (dT hX7_pastes 17 rfl) rfl ?_
    refine e_iload_n (pc := 26) Xc (dT hX7_pastes 18 rfl) 0 rfl ?_
    refine e_val (y := nI h) he ?_
    refine e_iaddN (a := 5) (b := h) (pc := 27) Xc (dT hX7_pastes 19 rfl) ?_
    refine e_ialdN (pc := 28) Xc (dT hX7_pastes 20 rfl) hP.a1 (by decide) rfl (5 + h) rfl (by have := hG.1; omega) (by decide) ?_
    refine e_iload_n (pc := 29) Xc (dT hX7_pastes 21 rfl) 3 rfl ?_
    refine e_if_eq (tgt := 40) (pc := 30) Xc (dT hX7_pastes 22 rfl) rfl (fun c30 => ?_) (fun c30 => ?_)
    · skip
      refine e_aload_n (pc := 40) Xc (dT hX7_pastes 26 rfl) 1 rfl ?_
      refine cl_X7_180 (pc := 41) (k := 0) (n := 0) (S := [.int (A 1 (5 + h)), .int (nI (5 + h)), .ref (m + 1)]) Xc hP.o (c_pasteNow hP hG) (dT hX7_pastes 27 rfl) rfl (Nat.le_of_ble_eq_true rfl) (Nat.le_of_ble_eq_true rfl) (Nat.le_of_ble_eq_true rfl) rfl (Nat.le_of_ble_eq_true rfl) (fun r1 σ2 hq3 => ?_)
      obtain ⟨r1e, r1s⟩ := hq3
      have r1e := r1e.symm; subst r1e; have r1s := r1s.symm; subst r1s
      refine e_ineg (pc := 44) Xc (dT hX7_pastes 28 rfl) ?_
      refine e_iadd (pc := 45) Xc (dT hX7_pastes 29 rfl) ?_
      refine e_iconst (v := 1) (pc := 46) Xc (dT hX7_pastes 30 rfl) rfl ?_
      refine e_bipush (v := 99) (pc := 47) Xc (dT hX7_pastes 31 rfl) rfl ?_
      refine cl_X7_192 (pc := 49) (k := 0) (n := 0) (S := [.int (nI (5 + h)), .ref (m + 1)]) Xc (c_within ((A 1 (5 + h)) + (-(pasteF (A 1)))) 1 99) (dT hX7_pastes 32 rfl) rfl (Nat.le_of_ble_eq_true rfl) (Nat.le_of_ble_eq_true rfl) (Nat.le_of_ble_eq_true rfl) rfl (Nat.le_of_ble_eq_true rfl) (fun r4 σ5 hq6 => ?_)
      obtain ⟨r4e, r4s⟩ := hq6
      have r4s := r4s.symm; subst r4s
      have r4e : wiF ((A 1 (5 + h)) + (-(pasteF (A 1)))) 1 99 = r4 := r4e.symm
      subst r4e
      refine e_iastN (pc := 52) Xc (dT hX7_pastes 33 rfl) hP.a1 rfl (5 + h) rfl (by have := hG.1; omega) (by decide) ?_
      refine Ev.gen (fun z => PX7 z m F T (upA A 1 (upd (A 1) (5 + h) (wiF ((A 1 (5 + h)) + (-(pasteF (A 1)))) 1 99)))) (hP.wa1 (g := (upd (A 1) (5 + h) (wiF ((A 1 (5 + h)) + (-(pasteF (A 1)))) 1 99)))) Off.set (fun σ7 hP8 ho9 => ?_)
      refine e_vret (pc := 53) Xc hQ (dT hX7_pastes 34 rfl) (Nat.le_refl _) (Nat.le_refl _) ?_
      refine ⟨?_, ho9⟩
      rw [pastF, if_neg c11, he, nI_clamp (by have := hG.1; omega)]
      first | rw [if_pos c30] | rw [if_neg c30]
      exact hP8
    · skip
      refine e_aload_n (pc := 33) Xc (dT hX7_pastes 23 rfl) 1 rfl ?_
      refine cl_X7_180 (pc := 34) (k := 0) (n := 0) (S := [.int (A 1 (5 + h)), .int (nI (5 + h)), .ref (m + 1)]) Xc hP.o (c_pasteNow hP hG) (dT hX7_pastes 24 rfl) rfl (Nat.le_of_ble_eq_true rfl) (Nat.le_of_ble_eq_true rfl) (Nat.le_of_ble_eq_true rfl) rfl (Nat.le_of_ble_eq_true rfl) (fun r10 σ11 hq12 => ?_)
      obtain ⟨r10e, r10s⟩ := hq12
      have r10e := r10e.symm; subst r10e; have r10s := r10s.symm; subst r10s
      refine e_goto (tgt := 45) (pc := 37) Xc (dT hX7_pastes 25 rfl) rfl ?_
      refine e_iadd (pc := 45) Xc (dT hX7_pastes 29 rfl) ?_
      refine e_iconst (v := 1) (pc := 46) Xc (dT hX7_pastes 30 rfl) rfl ?_
      refine e_bipush (v := 99) (pc := 47) Xc (dT hX7_pastes 31 rfl) rfl ?_
      refine cl_X7_192 (pc := 49) (k := 0) (n := 0) (S := [.int (nI (5 + h)), .ref (m + 1)]) Xc (c_within ((A 1 (5 + h)) + (pasteF (A 1))) 1 99) (dT hX7_pastes 32 rfl) rfl (Nat.le_of_ble_eq_true rfl) (Nat.le_of_ble_eq_true rfl) (Nat.le_of_ble_eq_true rfl) rfl (Nat.le_of_ble_eq_true rfl) (fun r13 σ14 hq15 => ?_)
      obtain ⟨r13e, r13s⟩ := hq15
      have r13s := r13s.symm; subst r13s
      have r13e : wiF ((A 1 (5 + h)) + (pasteF (A 1))) 1 99 = r13 := r13e.symm
      subst r13e
      refine e_iastN (pc := 52) Xc (dT hX7_pastes 33 rfl) hP.a1 rfl (5 + h) rfl (by have := hG.1; omega) (by decide) ?_
      refine Ev.gen (fun z => PX7 z m F T (upA A 1 (upd (A 1) (5 + h) (wiF ((A 1 (5 + h)) + (pasteF (A 1))) 1 99)))) (hP.wa1 (g := (upd (A 1) (5 + h) (wiF ((A 1 (5 + h)) + (pasteF (A 1))) 1 99)))) Off.set (fun σ16 hP17 ho18 => ?_)
      refine e_vret (pc := 53) Xc hQ (dT hX7_pastes 34 rfl) (Nat.le_refl _) (Nat.le_refl _) ?_
      refine ⟨?_, ho18⟩
      rw [pastF, if_neg c11, he, nI_clamp (by have := hG.1; omega)]
      first | rw [if_pos c30] | rw [if_neg c30]
      exact hP17
set_option maxRecDepth 100000 in
set_option maxHeartbeats 4000000 in
theorem c_keeps {G : xG} {σ : xS} {m : Nat} {F : Nat → Int32} {T : Nat → Nat} {A : Nat → Nat → Int32} (hP : PX7 σ m F T A) : CV G yX7_keeps cX7_keeps 2 none 0 0 0 [.ref m] σ (fun σ1 => ∃ fr : Nat → Int32, PX7 σ1 m F T (upA A 3 fr) ∧ (∀ j, j < 12 → fr j = A 1 j) ∧ Off m σ σ1) := by
  refine Met.ofX (by decide +kernel) (Nat.le_of_ble_eq_true rfl) (fun μ Xc hQ hnm => ?_)
  have Xc : xC G μ cX7_keeps 2 RX7 none 0 0 0 := Xc
  have lp2 : ∀ (n2 : Nat) (k : Nat) (fr : Nat → Int32) (σ2 : xS), 12 - k < n2 → (k ≤ 12) → (∀ j, j < k → fr j = A 1 j) → (PX7 σ2 m F T (upA A 3 fr)) → (Off m σ σ2) → Ev G μ 2 0 0 2 [(0, .ref m), (1, .int (nI k))] [] σ2 := by
    intro n2
    induction n2 with
    | zero => intro k fr σ2 hn; exact absurd hn (Nat.not_lt_zero _)
    | succ n2 ih2 =>
      intro k fr σ2 hn2 hk hf hp ho
      refine e_iload_n (pc := 2) Xc (dT hX7_keeps 2 rfl) 1 rfl ?_
      refine e_bipush (v := 12) (pc := 3) Xc (dT hX7_keeps 3 rfl) rfl ?_
      refine e_icmp_geN (x := k) (y := 12) (tgt := 26) (pc := 5) Xc (dT hX7_keeps 4 rfl) rfl (by omega) (by omega) (fun c5 => ?_) (fun c5 => ?_)
      · skip
        refine e_vret (pc := 26) Xc hQ (dT hX7_keeps 15 rfl) (Nat.le_refl _) (Nat.le_refl _) ?_
        exact ⟨fr, hp, fun j hj => hf j (by omega), ho⟩
      · skip
        refine e_aload_n (pc := 8) Xc (dT hX7_keeps 5 rfl) 0 rfl ?_
        refine gf_X7_18 (pc := 9) Xc (dT hX7_keeps 6 rfl) hp.o rfl ?_
        refine e_iload_n (pc := 12) Xc (dT hX7_keeps 7 rfl) 1 rfl ?_
        refine e_aload_n (pc := 13) Xc (dT hX7_keeps 8 rfl) 0 rfl ?_
        refine gf_X7_9 (pc := 14) Xc (dT hX7_keeps 9 rfl) hp.o rfl ?_
        refine e_iload_n (pc := 17) Xc (dT hX7_keeps 10 rfl) 1 rfl ?_
        refine e_ialdN (pc := 18) Xc (dT hX7_keeps 11 rfl) hp.a1 (by decide) rfl k rfl (by omega) (by decide) ?_
        refine e_val (y := A 1 k) rfl ?_
        refine e_iastN (pc := 19) Xc (dT hX7_keeps 12 rfl) hp.a3 rfl k rfl (by omega) (by decide) ?_
        refine Ev.gen (fun z => PX7 z m F T (upA (upA A 3 fr) 3 (upd fr k (A 1 k)))) (hp.wa3 (g := (upd fr k (A 1 k)))) Off.set (fun σ1 hP2 ho3 => ?_)
        have hP2 : PX7 σ1 m F T (upA A 3 (upd fr k (A 1 k))) := by rw [upA_2] at hP2; exact hP2
        refine e_iincN (a := k) (b := 1) (L' := [(1, .int (nI (k + 1))), (0, .ref m)]) (pc := 20) Xc (dT hX7_keeps 13 rfl) 1 rfl rfl (by decide) rfl ?_
        refine e_goto (tgt := 2) (pc := 23) Xc (dT hX7_keeps 14 rfl) rfl ?_
        refine Ev.pick (L' := [(0, .ref m), (1, .int (nI (k + 1)))]) [1, 0] rfl ?_
        exact ih2 (k + 1) (upd fr k (A 1 k)) σ1 (by omega) (by omega) (fun j hj => by by_cases he : j = k; (· subst he; rw [upd_s]); (· rw [upd_n he]; exact hf j (by omega))) hP2 (ho.tr ho3)
  show Ev G μ 2 0 0 0 [(0, .ref m)] [] σ
  refine e_iconst (v := 0) (pc := 0) Xc (dT hX7_keeps 0 rfl) rfl ?_
  refine e_istore_n (L' := [(1, .int 0), (0, .ref m)]) (pc := 1) Xc (dT hX7_keeps 1 rfl) (by decide) rfl ?_
  refine Ev.pick (L' := [(0, .ref m), (1, .int 0)]) [1, 0] rfl ?_
  exact lp2 ((12 - 0) + 1) 0 (A 3) σ (Nat.lt_succ_self _) (Nat.zero_le _) (fun j hj => absurd hj (Nat.not_lt_zero j)) (by rw [upA_id]; exact hP) Off.rf
set_option maxRecDepth 100000 in
set_option maxHeartbeats 4000000 in
theorem c_goesBack {G : xG} {σ : xS} {m : Nat} {F : Nat → Int32} {T : Nat → Nat} {A : Nat → Nat → Int32} (hP : PX7 σ m F T A) : CV G yX7_goesBack cX7_goesBack 2 none 0 0 0 [.ref m] σ (fun σ1 => PX7 σ1 m F T (upA A 1 (fun j => if j < 12 then A 3 j else A 1 j)) ∧ Off m σ σ1) := by
  refine Met.ofX (by decide +kernel) (Nat.le_of_ble_eq_true rfl) (fun μ Xc hQ hnm => ?_)
  have Xc : xC G μ cX7_goesBack 2 RX7 none 0 0 0 := Xc
  have lp2 : ∀ (n2 : Nat) (k : Nat) (X1 : Nat → Int32) (σ2 : xS), 12 - k < n2 → (k ≤ 12) → (∀ j, X1 j = if j < k then A 3 j else A 1 j) → (PX7 σ2 m F T (upA A 1 X1)) → (Off m σ σ2) → Ev G μ 2 0 0 2 [(0, .ref m), (1, .int (nI k))] [] σ2 := by
    intro n2
    induction n2 with
    | zero => intro k X1 σ2 hn; exact absurd hn (Nat.not_lt_zero _)
    | succ n2 ih2 =>
      intro k X1 σ2 hn2 hk hf hp ho
      refine e_iload_n (pc := 2) Xc (dT hX7_goesBack 2 rfl) 1 rfl ?_
      refine e_bipush (v := 12) (pc := 3) Xc (dT hX7_goesBack 3 rfl) rfl ?_
      refine e_icmp_geN (x := k) (y := 12) (tgt := 26) (pc := 5) Xc (dT hX7_goesBack 4 rfl) rfl (by omega) (by omega) (fun c5 => ?_) (fun c5 => ?_)
      · skip
        refine e_vret (pc := 26) Xc hQ (dT hX7_goesBack 15 rfl) (Nat.le_refl _) (Nat.le_refl _) ?_
        have hke : k = 12 := by omega
        subst hke
        have hX : X1 = fun j => if j < 12 then A 3 j else A 1 j := funext hf
        rw [← hX]
        exact ⟨hp, ho⟩
      · skip
        refine e_aload_n (pc := 8) Xc (dT hX7_goesBack 5 rfl) 0 rfl ?_
        refine gf_X7_9 (pc := 9) Xc (dT hX7_goesBack 6 rfl) hp.o rfl ?_
        refine e_iload_n (pc := 12) Xc (dT hX7_goesBack 7 rfl) 1 rfl ?_
        refine e_aload_n (pc := 13) Xc (dT hX7_goesBack 8 rfl) 0 rfl ?_
        refine gf_X7_18 (pc := 14) Xc (dT hX7_goesBack 9 rfl) hp.o rfl ?_
        refine e_iload_n (pc := 17) Xc (dT hX7_goesBack 10 rfl) 1 rfl ?_
        refine e_ialdN (pc := 18) Xc (dT hX7_goesBack 11 rfl) hp.a3 (by decide) rfl k rfl (by omega) (by decide) ?_
        refine e_val (y := A 3 k) rfl ?_
        refine e_iastN (pc := 19) Xc (dT hX7_goesBack 12 rfl) hp.a1 rfl k rfl (by omega) (by decide) ?_
        refine Ev.gen (fun z => PX7 z m F T (upA (upA A 1 X1) 1 (upd X1 k (A 3 k)))) (hp.wa1 (g := (upd X1 k (A 3 k)))) Off.set (fun σ1 hP2 ho3 => ?_)
        have hP2 : PX7 σ1 m F T (upA A 1 (upd X1 k (A 3 k))) := by rw [upA_2] at hP2; exact hP2
        refine e_iincN (a := k) (b := 1) (L' := [(1, .int (nI (k + 1))), (0, .ref m)]) (pc := 20) Xc (dT hX7_goesBack 13 rfl) 1 rfl rfl (by decide) rfl ?_
        refine e_goto (tgt := 2) (pc := 23) Xc (dT hX7_goesBack 14 rfl) rfl ?_
        refine Ev.pick (L' := [(0, .ref m), (1, .int (nI (k + 1)))]) [1, 0] rfl ?_
        exact ih2 (k + 1) (upd X1 k (A 3 k)) σ1 (by omega) (by omega) (fun j => by by_cases he : j = k; (· subst he; rw [upd_s, if_pos (by omega)]); (· rw [upd_n he, hf j]; by_cases hl : j < k; (· rw [if_pos hl, if_pos (by omega)]); (· rw [if_neg hl, if_neg (by omega)]))) hP2 (ho.tr ho3)
  show Ev G μ 2 0 0 0 [(0, .ref m)] [] σ
  refine e_iconst (v := 0) (pc := 0) Xc (dT hX7_goesBack 0 rfl) rfl ?_
  refine e_istore_n (L' := [(1, .int 0), (0, .ref m)]) (pc := 1) Xc (dT hX7_goesBack 1 rfl) (by decide) rfl ?_
  refine Ev.pick (L' := [(0, .ref m), (1, .int 0)]) [1, 0] rfl ?_
  exact lp2 ((12 - 0) + 1) 0 (A 1) σ (Nat.lt_succ_self _) (Nat.zero_le _) (fun j => by simp) (by rw [upA_id]; exact hP) Off.rf
