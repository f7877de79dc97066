set_option maxRecDepth 100000 in
set_option maxHeartbeats 4000000 in
theorem c_isOver {G : xG} {σ : xS} {m : Nat} {F : Nat → Int32} {T : Nat → Nat} {A : Nat → Nat → Int32} (hP : PX7 σ m F T A) {nr nb : Nat} (hG : Gd (A 1) nr nb) {t : xT} (hT : Hd (A 1) t) (w : Int32) : CI G yX7_isOver cX7_isOver 4 (some .boolean) 4 0 0 [.ref m, .int w] σ (fun z σ1 => z = bI (overF (A 1) t nr nb w) ∧ PX7 σ1 m F T A ∧ Off m σ σ1) := by
  refine Met.ofX (by decide +kernel) (Nat.le_of_ble_eq_true rfl) (fun μ Xc hQ hnm => ?_)
  have Xc : xC G μ cX7_isOver 4 RX7 (some .boolean) 4 0 0 := Xc
  have lp4 : ∀ (n4 : Nat) (r : Nat) (b : Bool) (σ2 : xS), nr - r < n4 → (r ≤ nr) → (b = allTo (fun q => if w = 0 then decide (choF (A 1) t nr nb q = -1) else decide (mayTakeF (A 1) nr nb q = 0)) r) → (PX7 σ2 m F T A) → (Off m σ σ2) → Ev G μ 4 0 0 4 [(0, .ref m), (1, .int w), (2, .int (bI b)), (3, .int (nI r))] [] σ2 := by
    intro n4
    induction n4 with
    | zero => intro r b σ2 hn; exact absurd hn (Nat.not_lt_zero _)
    | succ n4 ih4 =>
      intro r b σ2 hn4 hr hq hp ho
      refine e_iload_n (pc := 4) Xc (dT hX7_isOver 4 rfl) 3 rfl ?_
      refine e_aload_n (pc := 5) Xc (dT hX7_isOver 5 rfl) 0 rfl ?_
      refine gf_X7_9 (pc := 6) Xc (dT hX7_isOver 6 rfl) hp.o rfl ?_
      refine e_bipush (v := 12) (pc := 9) Xc (dT hX7_isOver 7 rfl) rfl ?_
      refine e_ialdN (pc := 11) Xc (dT hX7_isOver 8 rfl) hp.a1 (by decide) rfl 12 rfl (by have := hG.1; omega) (by decide) ?_
      refine e_val (y := nI nr) hG.1.2.2.1 ?_
      refine e_icmp_geN (x := r) (y := nr) (tgt := 60) (pc := 12) Xc (dT hX7_isOver 9 rfl) rfl (by have := hG.1; omega) (by have := hG.1; omega) (fun c12 => ?_) (fun c12 => ?_)
      · skip
        refine e_iload_n (pc := 60) Xc (dT hX7_isOver 33 rfl) 2 rfl ?_
        refine e_zret (pc := 61) Xc hQ (dT hX7_isOver 34 rfl) (Nat.le_refl _) (Nat.le_refl _) (bI_or _) ?_
        have hre : r = nr := by omega
        subst hre
        exact ⟨by rw [hq]; rfl, hp, ho⟩
      · skip
        refine e_iload_n (pc := 15) Xc (dT hX7_isOver 10 rfl) 2 rfl ?_
        refine e_if_eq (tgt := 60) (pc := 16) Xc (dT hX7_isOver 11 rfl) rfl (fun c16 => ?_) (fun c16 => ?_)
        · skip
          refine e_iload_n (pc := 60) Xc (dT hX7_isOver 33 rfl) 2 rfl ?_
          refine e_zret (pc := 61) Xc hQ (dT hX7_isOver 34 rfl) (Nat.le_refl _) (Nat.le_refl _) (bI_or _) ?_
          simp only [bI_0] at c16
          refine ⟨?_, hp, ho⟩
          rw [c16] at hq ⊢
          rw [overF, allTo_false hq.symm hr]
        · skip
          refine e_iload_n (pc := 19) Xc (dT hX7_isOver 12 rfl) 1 rfl ?_
          refine e_if_ne (tgt := 40) (pc := 20) Xc (dT hX7_isOver 13 rfl) rfl (fun c20 => ?_) (fun c20 => ?_)
          · skip
            refine e_aload_n (pc := 40) Xc (dT hX7_isOver 23 rfl) 0 rfl ?_
            refine e_iload_n (pc := 41) Xc (dT hX7_isOver 24 rfl) 3 rfl ?_
            refine cl_X7_174 (pc := 42) (k := 0) (n := 0) (S := []) Xc hp.o (c_mayTake hp hG r (by omega)) (dT hX7_isOver 25 rfl) rfl (Nat.le_of_ble_eq_true rfl) (Nat.le_of_ble_eq_true rfl) (Nat.le_of_ble_eq_true rfl) rfl (Nat.le_of_ble_eq_true rfl) (fun r1 σ2 hq3 => ?_)
            obtain ⟨r1e, r1s⟩ := hq3
            have r1e := r1e.symm; subst r1e; have r1s := r1s.symm; subst r1s
            refine e_if_ne (tgt := 52) (pc := 45) Xc (dT hX7_isOver 26 rfl) rfl (fun c45 => ?_) (fun c45 => ?_)
            · skip
              refine e_iconst (v := 0) (pc := 52) Xc (dT hX7_isOver 29 rfl) rfl ?_
              refine e_istore_n (L' := [(2, .int 0), (0, .ref m), (1, .int w), (3, .int (nI r))]) (pc := 53) Xc (dT hX7_isOver 30 rfl) (by decide) rfl ?_
              refine e_iincN (a := r) (b := 1) (L' := [(3, .int (nI (r + 1))), (2, .int 0), (0, .ref m), (1, .int w)]) (pc := 54) Xc (dT hX7_isOver 31 rfl) 3 rfl rfl (by decide) rfl ?_
              refine e_goto (tgt := 4) (pc := 57) Xc (dT hX7_isOver 32 rfl) rfl ?_
              refine Ev.pick (L' := [(0, .ref m), (1, .int w), (2, .int 0), (3, .int (nI (r + 1)))]) [2, 3, 1, 0] rfl ?_
              exact ih4 (r + 1) false σ2 (by omega) (by omega) (by show false = (allTo _ r && _); rw [← hq]; simp only [bI_0, Bool.not_eq_false] at c16; rw [c16]; simp [c20, c45]) hp ho
            · skip
              refine e_iconst (v := 1) (pc := 48) Xc (dT hX7_isOver 27 rfl) rfl ?_
              refine e_goto (tgt := 53) (pc := 49) Xc (dT hX7_isOver 28 rfl) rfl ?_
              refine e_istore_n (L' := [(2, .int 1), (0, .ref m), (1, .int w), (3, .int (nI r))]) (pc := 53) Xc (dT hX7_isOver 30 rfl) (by decide) rfl ?_
              refine e_iincN (a := r) (b := 1) (L' := [(3, .int (nI (r + 1))), (2, .int 1), (0, .ref m), (1, .int w)]) (pc := 54) Xc (dT hX7_isOver 31 rfl) 3 rfl rfl (by decide) rfl ?_
              refine e_goto (tgt := 4) (pc := 57) Xc (dT hX7_isOver 32 rfl) rfl ?_
              refine Ev.pick (L' := [(0, .ref m), (1, .int w), (2, .int 1), (3, .int (nI (r + 1)))]) [2, 3, 1, 0] rfl ?_
              exact ih4 (r + 1) true σ2 (by omega) (by omega) (by show true = (allTo _ r && _); rw [← hq]; simp only [bI_0, Bool.not_eq_false] at c16; rw [c16]; simp [c20, c45]) hp ho
          · skip
            refine e_aload_n (pc := 23) Xc (dT hX7_isOver 14 rfl) 0 rfl ?_
            refine e_iload_n (pc := 24) Xc (dT hX7_isOver 15 rfl) 3 rfl ?_
            refine cl_X7_171 (pc := 25) (k := 0) (n := 0) (S := []) Xc hp.o (c_choiceOf hp hG hT r (by omega)) (dT hX7_isOver 16 rfl) rfl (Nat.le_of_ble_eq_true rfl) (Nat.le_of_ble_eq_true rfl) (Nat.le_of_ble_eq_true rfl) rfl (Nat.le_of_ble_eq_true rfl) (fun r4 σ5 hq6 => ?_)
            obtain ⟨r4e, hP7, ho8⟩ := hq6
            have r4e := r4e.symm; subst r4e
            refine e_iconst (v := -1) (pc := 28) Xc (dT hX7_isOver 17 rfl) rfl ?_
            refine e_icmp_ne (tgt := 36) (pc := 29) Xc (dT hX7_isOver 18 rfl) rfl (fun c29 => ?_) (fun c29 => ?_)
            · skip
              refine e_iconst (v := 0) (pc := 36) Xc (dT hX7_isOver 21 rfl) rfl ?_
              refine e_goto (tgt := 53) (pc := 37) Xc (dT hX7_isOver 22 rfl) rfl ?_
              refine e_istore_n (L' := [(2, .int 0), (0, .ref m), (1, .int w), (3, .int (nI r))]) (pc := 53) Xc (dT hX7_isOver 30 rfl) (by decide) rfl ?_
              refine e_iincN (a := r) (b := 1) (L' := [(3, .int (nI (r + 1))), (2, .int 0), (0, .ref m), (1, .int w)]) (pc := 54) Xc (dT hX7_isOver 31 rfl) 3 rfl rfl (by decide) rfl ?_
              refine e_goto (tgt := 4) (pc := 57) Xc (dT hX7_isOver 32 rfl) rfl ?_
              refine Ev.pick (L' := [(0, .ref m), (1, .int w), (2, .int 0), (3, .int (nI (r + 1)))]) [2, 3, 1, 0] rfl ?_
              exact ih4 (r + 1) false σ5 (by omega) (by omega) (by show false = (allTo _ r && _); rw [← hq]; simp only [bI_0, Bool.not_eq_false] at c16; rw [c16]; simp [c20, c29]) hP7 (ho.tr ho8)
            · skip
              refine e_iconst (v := 1) (pc := 32) Xc (dT hX7_isOver 19 rfl) rfl ?_
              refine e_goto (tgt := 53) (pc := 33) Xc (dT hX7_isOver 20 rfl) rfl ?_
              refine e_istore_n (L' := [(2, .int 1), (0, .ref m), (1, .int w), (3, .int (nI r))]) (pc := 53) Xc (dT hX7_isOver 30 rfl) (by decide) rfl ?_
              refine e_iincN (a := r) (b := 1) (L' := [(3, .int (nI (r + 1))), (2, .int 1), (0, .ref m), (1, .int w)]) (pc := 54) Xc (dT hX7_isOver 31 rfl) 3 rfl rfl (by decide) rfl ?_
              refine e_goto (tgt := 4) (pc := 57) Xc (dT hX7_isOver 32 rfl) rfl ?_
              refine Ev.pick (L' := [(0, .ref m), (1, .int w), (2, .int 1), (3, .int (nI (r + 1)))]) [2, 3, 1, 0] rfl ?_
              exact ih4 (r + 1) true σ5 (by omega) (by omega) (by show true = (allTo _ r && _); rw [← hq]; simp only [bI_0, Bool.not_eq_false] at c16; rw [c16]; simp [c20, c29]) hP7 (ho.tr ho8)
  show Ev G μ 4 0 0 0 [(0, .ref m), (1, .int w)] [] σ
  refine e_iconst (v := 1) (pc := 0) Xc (dT hX7_isOver 0 rfl) rfl ?_
  refine e_istore_n (L' := [(2, .int 1), (0, .ref m), (1, .int w)]) (pc := 1) Xc (dT hX7_isOver 1 rfl) (by decide) rfl ?_
  refine e_iconst (v := 0) (pc := 2) Xc (dT hX7_isOver 2 rfl) rfl ?_
  refine e_istore_n (L' := [(3, .int 0), (2, .int 1), (0, .ref m), (1, .int w)]) (pc := 3) Xc (dT hX7_isOver 3 rfl) (by decide) rfl ?_
  refine Ev.pick (L' := [(0, .ref m), (1, .int w), (2, .int 1), (3, .int 0)]) [2, 3, 1, 0] rfl ?_
  exact lp4 ((nr - 0) + 1) 0 true σ (Nat.lt_succ_self _) (Nat.zero_le _) rfl hP Off.rf
set_option maxRecDepth 100000 in
set_option maxHeartbeats 4000000 in
theorem p_pass {G : xG} {σ : xS} {m : Nat} {X Y bd : Nat → Int32} {hi rn : Int32} (hM : MK σ m X Y bd hi rn) {nr nb ns np nn nt na dy : Nat} {t : xT} (hK : OK X nr nb t ns np nn nt na dy) (n : Int32) : CI G yX7_pass cX7_pass 3 (some .int) 6 0 0 [.ref m, .int n] σ (fun z σ1 => z = (v_pass X t nr nb dy n).1 ∧ MK σ1 m (v_pass X t nr nb dy n).2 Y bd hi rn ∧ Off m σ σ1) := by
  refine Met.ofX (by decide +kernel) (Nat.le_of_ble_eq_true rfl) (fun μ Xc hQ hnm => ?_)
  have Xc : xC G μ cX7_pass 3 RX7 (some .int) 6 0 0 := Xc
  obtain ⟨F, T, A, hP, e1, e2, e3, e4, e5⟩ := hM
  subst e1 e2 e3 e4 e5
  obtain ⟨hG, hT, hS, hPl, hNo, hTa, hA, hJ, hR, hD⟩ := id hK
  have hr4 := hG.r4
  have hb7 := hG.b7
  have hs6 := hS.1
  have hp8 := hPl.1
  have hn8 := hNo.1
  have ht100 := hTa.1
  have ha5 := hA.1
  have hd9 := hD.1
  show Ev G μ 3 0 0 0 [(0, .ref m), (1, .int n)] [] σ
  refine e_iload_n (pc := 0) Xc (dT hX7_pass 0 rfl) 1 rfl ?_
  refine e_iconst (v := 0) (pc := 1) Xc (dT hX7_pass 1 rfl) rfl ?_
  refine e_bipush (v := 40) (pc := 2) Xc (dT hX7_pass 2 rfl) rfl ?_
  refine cl_X7_50 (pc := 4) (k := 0) (n := 0) (S := []) Xc (c_in n 0 40) (dT hX7_pass 3 rfl) rfl (Nat.le_of_ble_eq_true rfl) (Nat.le_of_ble_eq_true rfl) (Nat.le_of_ble_eq_true rfl) rfl (Nat.le_of_ble_eq_true rfl) (fun r1 σ2 hq3 => ?_)
  obtain ⟨r1e, r1s⟩ := hq3
  have r1e := r1e.symm; subst r1e; have r1s := r1s.symm; subst r1s
  refine e_if_ne (tgt := 13) (pc := 7) Xc (dT hX7_pass 4 rfl) rfl (fun c7 => ?_) (fun c7 => ?_)
  · skip
    obtain ⟨kn, hkn, rfl⟩ := in_N (w := n) (n := 40) (by omega) (by have hcc := c7; simp only [bI_0, bI_1, Bool.not_eq_true, Bool.not_eq_false] at hcc; exact hcc)
    have hc_kn : cl (nI kn) = kn := cl_nI (by omega)
    refine e_aload_n (pc := 13) Xc (dT hX7_pass 7 rfl) 0 rfl ?_
    refine gf_X7_9 (pc := 14) Xc (dT hX7_pass 8 rfl) hP.o rfl ?_
    refine e_iconst (v := 0) (pc := 17) Xc (dT hX7_pass 9 rfl) rfl ?_
    refine e_ialdN (pc := 18) Xc (dT hX7_pass 10 rfl) hP.a1 (by decide) rfl 0 rfl (by omega) (by decide) ?_
    refine e_val (y := nI dy) hD.2 ?_
    refine e_iload_n (pc := 19) Xc (dT hX7_pass 11 rfl) 1 rfl ?_
    refine e_iaddN (a := dy) (b := kn) (pc := 20) Xc (dT hX7_pass 12 rfl) ?_
    refine e_sipush (v := 9999) (pc := 21) Xc (dT hX7_pass 13 rfl) rfl ?_
    refine e_icmp_leN (x := dy + kn) (y := 9999) (tgt := 30) (pc := 24) Xc (dT hX7_pass 14 rfl) rfl (by omega) (by omega) (fun c24 => ?_) (fun c24 => ?_)
    · skip
      refine e_iconst (v := 0) (pc := 30) Xc (dT hX7_pass 17 rfl) rfl ?_
      refine e_istore_n (L' := [(2, .int 0), (0, .ref m), (1, .int (nI kn))]) (pc := 31) Xc (dT hX7_pass 18 rfl) (by decide) rfl ?_
      have lp32 : ∀ (n32 : Nat) (i : Nat) (X1 : Nat → Int32) (σ2 : xS), kn - i < n32 → (i ≤ kn) → (X1 = (daysF (A 1) t nr nb i).2) → (Gd X1 nr nb) → (Hd X1 t) → (PX7 σ2 m F T (upA A 1 X1)) → (Off m σ σ2) → Ev G μ 3 0 0 32 [(0, .ref m), (1, .int (nI kn)), (2, .int (nI i))] [] σ2 := by
        intro n32
        induction n32 with
        | zero => intro i X1 σ2 hn; exact absurd hn (Nat.not_lt_zero _)
        | succ n32 ih32 =>
          intro i X1 σ2 hn32 hi hq hG1 hT1 hp ho
          refine e_iload_n (pc := 32) Xc (dT hX7_pass 19 rfl) 2 rfl ?_
          refine e_iload_n (pc := 33) Xc (dT hX7_pass 20 rfl) 1 rfl ?_
          refine e_icmp_geN (x := i) (y := kn) (tgt := 48) (pc := 34) Xc (dT hX7_pass 21 rfl) rfl (by omega) (by omega) (fun c34 => ?_) (fun c34 => ?_)
          · skip
            refine e_aload_n (pc := 48) Xc (dT hX7_pass 27 rfl) 0 rfl ?_
            refine gf_X7_9 (pc := 49) Xc (dT hX7_pass 28 rfl) hp.o rfl ?_
            refine e_iconst (v := 0) (pc := 52) Xc (dT hX7_pass 29 rfl) rfl ?_
            refine e_ialdN (pc := 53) Xc (dT hX7_pass 30 rfl) hp.a1 (by decide) rfl 0 rfl (by omega) (by decide) ?_
            refine e_val (y := X1 0) rfl ?_
            refine e_iret (pc := 54) Xc hQ (dT hX7_pass 31 rfl) (Nat.le_refl _) (Nat.le_refl _) ?_
            have hie : kn = i := by omega
            subst hie
            have hz : v_pass (A 1) t nr nb dy (nI kn) = (X1 0, X1) := by
              simp only [bI_0, bI_1, Bool.not_eq_true, Bool.not_eq_false] at c7 c24 c34
              first | (simp [v_pass, c7, c24, c34, hc_kn, hq, Nat.not_lt.mpr c24]; done) | (clear hK hG hT hS hPl hNo hTa hA hJ hR hD hQ Xc; simp_all [v_pass, hq, Nat.not_lt.mpr c24]; done)
            rw [hz]
            exact ⟨rfl, ⟨_, _, _, hp, rfl, rfl, rfl, rfl, rfl⟩, ho⟩
          · skip
            refine e_aload_n (pc := 37) Xc (dT hX7_pass 22 rfl) 0 rfl ?_
            refine cl_X7_199 (pc := 38) (k := 0) (n := 0) (S := []) Xc hp.o (c_goes hp hG1 hT1) (dT hX7_pass 23 rfl) rfl (Nat.le_of_ble_eq_true rfl) (Nat.le_of_ble_eq_true rfl) (Nat.le_of_ble_eq_true rfl) rfl (Nat.le_of_ble_eq_true rfl) (fun r4 σ5 hq6 => ?_)
            obtain ⟨r4e, hP7, ho8⟩ := hq6
            have r4e := r4e.symm; subst r4e
            have hP7 : PX7 σ5 m F T (upA A 1 ((goF X1 t nr nb).2)) := by rw [upA_2] at hP7; exact hP7
            refine e_val (y := (goF X1 t nr nb).1) rfl ?_
            refine e_pop (pc := 41) Xc (dT hX7_pass 24 rfl) rfl ?_
            refine e_iincN (a := i) (b := 1) (L' := [(2, .int (nI (i + 1))), (0, .ref m), (1, .int (nI kn))]) (pc := 42) Xc (dT hX7_pass 25 rfl) 2 rfl rfl (by decide) rfl ?_
            refine e_goto (tgt := 32) (pc := 45) Xc (dT hX7_pass 26 rfl) rfl ?_
            refine Ev.pick (L' := [(0, .ref m), (1, .int (nI kn)), (2, .int (nI (i + 1)))]) [1, 2, 0] rfl ?_
            exact ih32 (i + 1) ((goF X1 t nr nb).2) σ5 (by omega) (by omega) (by rw [hq]; rfl) (Gd.go hG1 hT1) (Hd.go hT1 hG1) hP7 (ho.tr ho8)
      refine Ev.pick (L' := [(0, .ref m), (1, .int (nI kn)), (2, .int 0)]) [1, 2, 0] rfl ?_
      exact lp32 ((kn - 0) + 1) 0 (A 1) σ (Nat.lt_succ_self _) (Nat.zero_le _) rfl hG hT (by rw [upA_id]; exact hP) Off.rf
    · skip
      refine e_bipush (v := -3) (pc := 27) Xc (dT hX7_pass 15 rfl) rfl ?_
      refine e_iret (pc := 29) Xc hQ (dT hX7_pass 16 rfl) (Nat.le_refl _) (Nat.le_refl _) ?_
      have hz : v_pass (A 1) t nr nb dy (nI kn) = ((-3), A 1) := by
        simp only [bI_0, bI_1, Bool.not_eq_true, Bool.not_eq_false] at c7 c24
        first | (simp [v_pass, c7, c24, hc_kn]; done) | (clear hK hG hT hS hPl hNo hTa hA hJ hR hD hQ Xc; simp_all [v_pass]; done)
      rw [hz]
      exact ⟨rfl, ⟨_, _, _, hP, rfl, rfl, rfl, rfl, rfl⟩, Off.rf⟩
  · skip
    refine e_bipush (v := -2) (pc := 10) Xc (dT hX7_pass 5 rfl) rfl ?_
    refine e_iret (pc := 12) Xc hQ (dT hX7_pass 6 rfl) (Nat.le_refl _) (Nat.le_refl _) ?_
    have hz : v_pass (A 1) t nr nb dy n = ((-2), A 1) := by
      simp only [bI_0, bI_1, Bool.not_eq_true, Bool.not_eq_false] at c7
      first | (simp [v_pass, c7]; done) | (clear hK hG hT hS hPl hNo hTa hA hJ hR hD hQ Xc; simp_all [v_pass]; done)
    rw [hz]
    exact ⟨rfl, ⟨_, _, _, hP, rfl, rfl, rfl, rfl, rfl⟩, Off.rf⟩
