set_option maxRecDepth 100000 in
set_option maxHeartbeats 4000000 in
theorem c_isOver {G : xG} {σ : xS} {m : Nat} {F : Nat → Int32} {T : Nat → Nat} {A : Nat → Nat → Int32} (hP : PX7 σ m F T A) {nr nb : Nat} (hG : Gd (A 1) nr nb) {t : xT} (hT : Hd (A 1) t) (w : Int32) : CI G yX7_isOver cX7_isOver 4 (some .boolean) 4 0 0 [.ref m, .int w] σ (fun z σ1 => z = bI (overF (A 1) t nr nb w) ∧ PX7 σ1 m F T A ∧ Off m σ σ1) := by
  refine Met.ofX (by decide +kernel) (Nat.le_of_ble_eq_true rfl) (fun μ Xc hQ hnm => ?_)
  have Xc : xC G μ cX7_isOver 4 RX7 (some .boolean) 4 0 0 := Xc
  have lp4 : ∀ (n4 : Nat) (r : Nat) (b : Bool) (σ2 : xS), nr - r < n4 → (r ≤ nr) → (b = allTo (fun q => if w = 0 then decide (choF (A 1) t nr nb q = -1) else decide (mayTakeF (A 1) nr nb q = 0)) r) → (PX7 σ2 m F T A) → (Off m σ σ2) → Ev G μ 4 0 0 4 [(0, .ref m), (1, .int w), (2, .int (bI b)), (3, .int (nI r))] [] σ2 := by
    intro n4
    induction n4 with
    | zero => intro r b σ2 hn; exact absurd hn (Nat.not_lt_zero _)
    | succ n4 ih4 =>
      intro r b σ2 hn4 hr hq hp ho
      refine e_iload_n (pc := 4) Xc (dT hX7_isOver 4 rfl) 3 rfl ?_
      refine e_aload_n (pc := 5) Xc (dT hX7_isOver 5 rfl) 0 rfl ?_
      refine gf_X7_9 (pc := 6) Xc (dT hX7_isOver 6 rfl) hp.o rfl ?_
      refine e_bipush (v := 12) (pc := 9) Xc (dT hX7_isOver 7 rfl) rfl ?_
      refine e_ialdN (pc := 11) Xc (dT hX7_isOver 8 rfl) hp.a1 (by decide) rfl 12 rfl (by have := hG.1; omega) (by decide) ?_
      refine e_val (y := nI nr) hG.1.2.2.1 ?_
      refine e_icmp_geN (x := r) (y := nr) (tgt := 60) (pc := 12) Xc (dT hX7_isOver 9 rfl) rfl (by have := hG.1; omega) (by have := hG.1; omega) (fun c12 => ?_) (fun c12 => ?_)
      · skip
        refine e_iload_n (pc := 60) Xc (dT hX7_isOver 33 rfl) 2 rfl ?_
        refine e_zret (pc := 61) Xc hQ (dT hX7_isOver 34 rfl) (Nat.le_refl _) (Nat.le_refl _) (bI_or _) ?_
        have hre : r = nr := by omega
        subst hre
        exact ⟨by rw [hq]; rfl, hp, ho⟩
      · skip
        refine e_iload_n (pc := 15) Xc (dT hX7_isOver 10 rfl) 2 rfl ?_
        refine e_if_eq (tgt := 60) (pc := 16) Xc (dT hX7_isOver 11 rfl) rfl (fun c16 => ?_) (fun c16 => ?_)
        · skip
          refine e_iload_n (pc := 60) Xc (dT hX7_isOver 33 rfl) 2 rfl ?_
          refine e_zret (pc := 61) Xc hQ (dT hX7_isOver 34 rfl) (Nat.le_refl _) (Nat.le_refl _) (bI_or _) ?_
          simp only [bI_0] at c16
          refine ⟨?_, hp, ho⟩
          rw [c16] at hq ⊢
          rw [overF, allTo_false hq.symm hr]
        · skip
          refine e_iload_n (pc := 19) Xc (dT hX7_isOver 12 rfl) 1 rfl ?_
          refine e_if_ne (tgt := 40) (pc := 20) Xc (dT hX7_isOver 13 rfl) rfl (fun c20 => ?_) (fun c20 => ?_)
          · skip
            refine e_aload_n (pc := 40) Xc (dT hX7_isOver 23 rfl) 0 rfl ?_
            refine e_iload_n (pc := 41) Xc (dT hX7_isOver 24 rfl) 3 rfl ?_
            refine cl_X7_174 (pc := 42) (k := 0) (n := 0) (S := []) Xc hp.o (c_mayTake hp hG r (by omega)) (dT hX7_isOver 25 rfl) rfl (Nat.le_of_ble_eq_true rfl) (Nat.le_of_ble_eq_true rfl) (Nat.le_of_ble_eq_true rfl) rfl (Nat.le_of_ble_eq_true rfl) (fun r1 σ2 hq3 => ?_)
            obtain ⟨r1e, r1s⟩ := hq3
            have r1e := r1e.symm; subst r1e; have r1s := r1s.symm; subst r1s
            refine e_if_ne (tgt := 52) (pc := 45) Xc (dT hX7_isOver 26 rfl) rfl (fun c45 => ?_) (fun c45 => ?_)
            · skip
              refine e_iconst (v := 0) (pc := 52) Xc (dT hX7_isOver 29 rfl) rfl ?_
              refine e_istore_n (L' := [(2, .int 0), (0, .ref m), (1, .int w), (3, .int (nI r))]) (pc := 53) Xc (dT hX7_isOver 30 rfl) (by decide) rfl ?_
              refine e_iincN (a := r) (b := 1) (L' := [(3, .int (nI (r + 1))), (2, .int 0), (0, .ref m), (1, .int w)]) (pc := 54) Xc (dT hX7_isOver 31 rfl) 3 rfl rfl (by decide) rfl ?_
              refine e_goto (tgt := 4) (pc := 57) Xc (dT hX7_isOver 32 rfl) rfl ?_
              refine Ev.pick (L' := [(0, .ref m), (1, .int w), (2, .int 0), (3, .int (nI (r + 1)))]) [2, 3, 1, 0] rfl ?_
              exact ih4 (r + 1) false σ2 (by omega) (by omega) (by show false = (allTo _ r && _); rw [← hq]; simp only [bI_0, Bool.not_eq_false] at c16; rw [c16]; simp [c20, c45]) hp ho
            · skip
              refine e_iconst (v := 1) (pc := 48) Xc (dT hX7_isOver 27 rfl) rfl ?_
              refine e_goto (tgt := 53) (pc := 49) Xc (dT hX7_isOver 28 rfl) rfl ?_
              refine e_istore_n (L' := [(2, .int 1), (0, .ref m), (1, .int w), (3, .int (nI r))]) (pc := 53) Xc (dT hX7_isOver 30 rfl) (by decide) rfl ?_
              refine e_iincN (a := r) (b := 1) (L' := [(3, .int (nI (r + 1))), (2, .int 1), (0, .ref m), (1, .int w)]) (pc := 54) Xc (dT hX7_isOver 31 rfl) 3 rfl rfl (by decide) rfl ?_
              refine e_goto (tgt := 4) (pc := 57) Xc (dT hX7_isOver 32 rfl) rfl ?_
              refine Ev.pick (L' := [(0, .ref m), (1, .int w), (2, .int 1), (3, .int (nI (r + 1)))]) [2, 3, 1, 0] rfl ?_
              exact ih4 (r + 1) true σ2 (by omega) (by omega) (by show true = (allTo _ r && _); rw [← hq]; simp only [bI_0, Bool.not_eq_false] at c16; rw [c16]; simp [c20, c45]) hp ho
          · skip
            refine e_aload_n (pc := 23) Xc (dT hX7_isOver 14 rfl) 0 rfl ?_
            refine e_iload_n (pc := 24) Xc (dT hX7_isOver 15 rfl) 3 rfl ?_
            refine cl_X7_171 (pc := 25) (k := 0) (n := 0) (S := []) Xc hp.o (c_choiceOf hp hG hT r (by omega)) (dT hX7_isOver 16 rfl) rfl (Nat.le_of_ble_eq_true rfl) (Nat.le_of_ble_eq_true rfl) (Nat.le_of_ble_eq_true rfl) rfl (Nat.le_of_ble_eq_true rfl) (fun r4 σ5 hq6 => ?_)
            obtain ⟨r4e, hP7, ho8⟩ := hq6
            have r4e := r4e.symm; subst r4e
            refine e_iconst (v := -1) (pc := 28) Xc (dT hX7_isOver 17 rfl) rfl ?_
            refine e_icmp_ne (tgt := 36) (pc := 29) Xc (dT hX7_isOver 18 rfl) rfl (fun c29 => ?_) (fun c29 => ?_)
            · skip
              refine e_iconst (v := 0) (pc := 36) Xc (dT hX7_isOver 21 rfl) rfl ?_
              refine e_goto (tgt := 53) (pc := 37) Xc (dT hX7_isOver 22 rfl) rfl ?_
              refine e_istore_n (L' := [(2, .int 0), (0, .ref m), (1, .int w), (3, .int (nI r))]) (pc := 53) Xc (dT hX7_isOver 30 rfl) (by decide) rfl ?_
              refine e_iincN (a := r) (b := 1) (L' := [(3, .int (nI (r + 1))), (2, .int 0), (0, .ref m), (1, .int w)]) (pc := 54) Xc (dT hX7_isOver 31 rfl) 3 rfl rfl (by decide) rfl ?_
              refine e_goto (tgt := 4) (pc := 57) Xc (dT hX7_isOver 32 rfl) rfl ?_
              refine Ev.pick (L' := [(0, .ref m), (1, .int w), (2, .int 0), (3, .int (nI (r + 1)))]) [2, 3, 1, 0] rfl ?_
              exact ih4 (r + 1) false σ5 (by omega) (by omega) (by show false = (allTo _ r && _); rw [← hq]; simp only [bI_0, Bool.not_eq_false] at c16; rw [c16]; simp [c20, c29]) hP7 (ho.tr ho8)
            · skip
              refine e_iconst (v := 1) (pc := 32) Xc (dT hX7_isOver 19 rfl) rfl ?_
              refine e_goto (tgt := 53) (pc := 33) Xc (dT hX7_isOver 20 rfl) rfl ?_
              refine e_istore_n (L' := [(2, .int 1), (0, .ref m), (1, .int w), (3, .int (nI r))]) (pc := 53) Xc (dT hX7_isOver 30 rfl) (by decide) rfl ?_
              refine e_iincN (a := r) (b := 1) (L' := [(3, .int (nI (r + 1))), (2, .int 1), (0, .ref m), (1, .int w)]) (pc := 54) Xc (dT hX7_isOver 31 rfl) 3 rfl rfl (by decide) rfl ?_
              refine e_goto (tgt := 4) (pc := 57) Xc (dT hX7_isOver 32 rfl) rfl ?_
              refine Ev.pick (L' := [(0, .ref m), (1, .int w), (2, .int 1), (3, .int (nI (r + 1)))]) [2, 3, 1, 0] rfl ?_
              exact ih4 (r + 1) true σ5 (by omega) (by omega) (by show true = (allTo _ r && _); rw [← hq]; simp only [bI_0, Bool.not_eq_false] at c16; rw [c16]; simp [c20, c29]) hP7 (ho.tr ho8)
  show Ev G μ 4 0 0 0 [(0, .ref m), (1, .int w)] [] σ
  refine e_iconst (v := 1) (pc := 0) Xc (dT hX7_isOver 0 rfl) rfl ?_
  refine e_istore_n (L' := [(2, .int 1), (0, .ref m), (1, .int w)]) (pc := 1) Xc (dT hX7_isOver 1 rfl) (by decide) rfl ?_
  refine e_iconst (v := 0) (pc := 2) Xc (dT hX7_isOver 2 rfl) rfl ?_
  refine e_istore_n (L' := [(3, .int 0), (2, .int 1), (0, .ref m), (1, .int w)]) (pc := 3) Xc (dT hX7_isOver 3 rfl) (by decide) rfl ?_
  refine Ev.pick (L' := [(0, .ref m), (1, .int w), (2, .int 1), (3, .int 0)]) [2, 3, 1, 0] rfl ?_
  exact lp4 ((nr - 0) + 1) 0 true σ (Nat.lt_succ_self _) (Nat.zero_le _) rfl hP Off.rf
set_option maxRecDepth 100000 in
set_option maxHeartbeats 4000000 in
theorem p_pass {G : xG} {σ : xS} {m : Nat} {X Y bd : Nat → Int32} {hi rn : Int32} (hM : MK σ m X Y bd hi rn) {nr nb ns np nn nt na dy : Nat} {t : xT} (hK : OK X nr nb t ns np nn nt na dy) (n : Int32) : CI G yX7_pass cX7_pass 3 (some .int) 6 0 0 [.ref m, .int n] σ (fun z σ1 => z = (v_pass X t nr nb dy n).1 ∧ MK σ1 m (v_pass X t nr nb dy n).2 Y bd hi rn ∧ Off m σ σ1) := by
  refine Met.ofX (by decide +kernel) (Nat.le_of_ble_eq_true rfl) (fun μ Xc hQ hnm => ?_)
  have Xc : xC G μ cX7_pass 3 RX7 (some .int) 6 0 0 := Xc
  obtain ⟨F, T, A, hP, e1, e2, e3, e4, e5⟩ := hM
  subst e1 e2 e3 e4 e5
  obtain ⟨hG, hT, hS, hPl, hNo, hTa, hA, hJ, hR, hD⟩ := id hK
  have hr4 := hG.r4
  have hb7 := hG.b7
  have hs6 := hS.1
  have hp8 := hPl.1
  have hn8 := hNo.1
  have ht100 := hTa.1
  have ha5 := hA.1
  have hd9 := hD.1
  show Ev G μ 3 0 0 0 [(0, .ref m), (1, .int n)] [] σ
  refine e_iload_n (pc := 0) Xc (dT hX7_pass 0 rfl) 1 rfl ?_
  refine e_iconst (v := 0) (pc := 1) Xc (dT hX7_pass 1 rfl) rfl ?_
  refine e_bipush (v := 40) (pc := 2) Xc (dT hX7_pass 2 rfl) rfl ?_
  refine cl_X7_50 (pc := 4) (k := 0) (n := 0) (S := []) Xc (c_in n 0 40) (dT hX7_pass 3 rfl) rfl (Nat.le_of_ble_eq_true rfl) (Nat.le_of_ble_eq_true rfl) (Nat.le_of_ble_eq_true rfl) rfl (Nat.le_of_ble_eq_true rfl) (fun r1 σ2 hq3 => ?_)
  obtain ⟨r1e, r1s⟩ := hq3
  have r1e := r1e.symm; subst r1e; have r1s := r1s.symm; subst r1s
  refine e_if_ne (tgt := 13) (pc := 7) Xc (dT hX7_pass 4 rfl) rfl (fun c7 => ?_) (fun c7 => ?_)
  · skip
    obtain ⟨kn, hkn, rfl⟩ := in_N (w := n) (n := 40) (by omega) (by have hcc := c7; simp only [bI_0, bI_1, Bool.not_eq_true, Bool.not_eq_false] at hcc; exact hcc)
    have hc_kn : cl (nI kn) = kn := cl_nI (by omega)
    refine e_aload_n (pc := 13) Xc (dT hX7_pass 7 rfl) 0 rfl ?_
    refine gf_X7_9 (pc := 14) Xc (dT hX7_pass 8 rfl) hP.o rfl ?_
    refine e_iconst (v := 0) (pc := 17) Xc (dT hX7_pass 9 rfl) rfl ?_
    refine e_ialdN (pc := 18) Xc (dT hX7_pass 10 rfl) hP.a1 (by decide) rfl 0 rfl (by omega) (by decide) ?_
    refine e_val (y := nI dy) hD.2 ?_
    refine e_iload_n (pc := 19) Xc (dT hX7_pass 11 rfl) 1 rfl ?_
    refine e_iaddN (a := dy) (b := kn) (pc := 20) Xc (dT hX7_pass 12 rfl) ?_
    refine e_sipush (v := 9999) (pc := 21) Xc (dT hX7_pass 13 rfl) rfl ?_
    refine e_icmp_leN (x := dy + kn) (y := 9999) (tgt := 30) (pc := 24) Xc (dT hX7_pass 14 rfl) rfl (by omega) (by omega) (fun c24 => ?_) (fun c24 => ?_)
    · skip
      refine e_iconst (v := 0) (pc := 30) Xc (dT hX7_pass 17 rfl) rfl ?_
      refine e_istore_n (L' := [(2, .int 0), (0, .ref m), (1, .int (nI kn))]) (pc := 31) Xc (dT hX7_pass 18 rfl) (by decide) rfl ?_
      have lp32 : ∀ (n32 : Nat) (i : Nat) (X1 : Nat → Int32) (σ2 : xS), kn - i < n32 → (i ≤ kn) → (X1 = (daysF (A 1) t nr nb i).2) → (Gd X1 nr nb) → (Hd X1 t) → (PX7 σ2 m F T (upA A 1 X1)) → (Off m σ σ2) → Ev G μ 3 0 0 32 [(0, .ref m), (1, .int (nI kn)), (2, .int (nI i))] [] σ2 := by
        intro n32
        induction n32 with
        | zero => intro i X1 σ2 hn; exact absurd hn (Nat.not_lt_zero _)
        | succ n32 ih32 =>
          intro i X1 σ2 hn32 hi hq hG1 hT1 hp ho
          refine e_iload_n (pc := 32) Xc (dT hX7_pass 19 rfl) 2 rfl ?_
          refine e_iload_n (pc := 33) Xc (dT hX7_pass 20 rfl) 1 rfl ?_
          refine e_icmp_geN (x := i) (y := kn) (tgt := 48) (pc := 34) Xc (dT hX7_pass 21 rfl) rfl (by omega) (by omega) (fun c34 => ?_) (fun c34 => ?_)
          · skip
            refine e_aload_n (pc := 48) Xc (dT hX7_pass 27 rfl) 0 rfl ?_
            refine gf_X7_9 (pc := 49) Xc (dT hX7_pass 28 rfl) hp.o rfl ?_
            refine e_iconst (v := 0) (pc := 52) Xc (dT hX7_pass 29 rfl) rfl ?_
            refine e_ialdN (pc := 53) Xc (dT hX7_pass 30 rfl) hp.a1 (by decide) rfl 0 rfl (by omega) (by decide) ?_
            refine e_val (y := X1 0) rfl ?_
            refine e_iret (pc := 54) Xc hQ (dT hX7_pass 31 rfl) (Nat.le_refl _) (Nat.le_refl _) ?_
            have hie : kn = i := by omega
            subst hie
            have hz : v_pass (A 1) t nr nb dy (nI kn) = (X1 0, X1) := by
              simp only [bI_0, bI_1, Bool.not_eq_true, Bool.not_eq_false] at c7 c24 c34
              first | (simp [v_pass, c7, c24, c34, hc_kn, hq, Nat.not_lt.mpr c24]; done) | (clear hK hG hT hS hPl hNo hTa hA hJ hR hD hQ Xc; simp_all [v_pass, hq, Nat.not_lt.mpr c24]; done)
            rw [hz]
            exact ⟨rfl, ⟨_, _, _, hp, rfl, rfl, rfl, rfl, rfl⟩, ho⟩
          · skip
            refine e_aload_n (pc := 37) Xc (dT hX7_pass 22 rfl) 0 rfl ?_
            refine cl_X7_199 (pc := 38) (k := 0) (n := 0) (S := []) Xc hp.o (c_goes hp hG1 hT1) (dT hX7_pass 23 rfl) rfl (Nat.le_of_ble_eq_true rfl) (Nat.le_of_ble_eq_true rfl) (Nat.le_of_ble_eq_true rfl) rfl (Nat.le_of_ble_eq_true rfl) (fun r4 σ5 hq6 => ?_)
            obtain ⟨r4e, hP7, ho8⟩ := hq6
            have r4e := r4e.symm; subst r4e
            have hP7 : PX7 σ5 m F T (upA A 1 ((goF X1 t nr nb).2)) := by rw [upA_2] at hP7; exact hP7
            refine e_val (y := (goF X1 t nr nb).1) rfl ?_
            refine e_pop (pc := 41) Xc (dT hX7_pass 24 rfl) rfl ?_
            refine e_iincN (a := i) (b := 1) (L' := [(2, .int (nI (i + 1))), (0, .ref m), (1, .int (nI kn))]) (pc := 42) Xc (dT hX7_pass 25 rfl) 2 rfl rfl (by decide) rfl ?_
            refine e_goto (tgt := 32) (pc := 45) Xc (dT hX7_pass 26 rfl) rfl ?_
            refine Ev.pick (L' := [(0, .ref m), (1, .int (nI kn)), (2, .int (nI (i + 1)))]) [1, 2, 0] rfl ?_
            exact ih32 (i + 1) ((goF X1 t nr nb).2) σ5 (by omega) (by omega) (by rw [hq]; rfl) (Gd.go hG1 hT1) (Hd.go hT1 hG1) hP7 (ho.tr ho8)
      refine Ev.pick (L' := [(0, .ref m), (1, .int (nI kn)), (2, .int 0)]) [1, 2, 0] rfl ?_
      exact lp32 ((kn - 0) + 1) 0 (A 1) σ (Nat.lt_succ_self _) (Nat.zero_le _) rfl hG hT (by rw [upA_id]; exact hP) Off.rf
    · skip
      refine e_bipush (v := -3) (pc := 27) Xc (dT hX7_pass 15 rfl) rfl ?_
      refine e_iret (pc := 29) Xc hQ (dT hX7_pass 16 rfl) (Nat.le_refl _) (Nat.le_refl _) ?_
      have hz : v_pass (A 1) t nr nb dy (nI kn) = ((-3), A 1) := by
        simp only [bI_0, bI_1, Bool.not_eq_true, Bool.not_eq_false] at c7 c24
        first | (simp [v_pass, c7, c24, hc_kn]; done) | (clear hK hG hT hS hPl hNo hTa hA hJ hR hD hQ Xc; simp_all [v_pass]; done)
      rw [hz]
      exact ⟨rfl, ⟨_, _, _, hP, rfl, rfl, rfl, rfl, rfl⟩, Off.rf⟩
  · skip
    refine e_bipush (v := -2) (pc := 10) Xc (dT hX7_pass 5 rfl) rfl ?_
    refine e_iret (pc := 12) Xc hQ (dT hX7_pass 6 rfl) (Nat.le_refl _) (Nat.le_refl _) ?_
    have hz : v_pass (A 1) t nr nb dy n = ((-2), A 1) := by
      simp only [bI_0, bI_1, Bool.not_eq_true, Bool.not_eq_false] at c7
      first | (simp [v_pass, c7]; done) | (clear hK hG hT hS hPl hNo hTa hA hJ hR hD hQ Xc; simp_all [v_pass]; done)
    rw [hz]
    exact ⟨rfl, ⟨_, _, _, hP, rfl, rfl, rfl, rfl, rfl⟩, Off.rf⟩
set_option maxRecDepth 100000 in
set_option maxHeartbeats 4000000 in
theorem p_on {G : xG} {σ : xS} {m : Nat} {X Y bd : Nat → Int32} {hi rn : Int32} (hM : MK σ m X Y bd hi rn) {nr nb ns np nn nt na dy : Nat} {t : xT} (hK : OK X nr nb t ns np nn nt na dy) (n : Int32) (w : Int32) : CI G yX7_on cX7_on 5 (some .int) 7 0 0 [.ref m, .int n, .int w] σ (fun z σ1 => z = v_on X t nr nb n w ∧ MK σ1 m X Y bd hi rn ∧ Off m σ σ1) := by
  refine Met.ofX (by decide +kernel) (Nat.le_of_ble_eq_true rfl) (fun μ Xc hQ hnm => ?_)
  have Xc : xC G μ cX7_on 5 RX7 (some .int) 7 0 0 := Xc
  obtain ⟨F, T, A, hP, e1, e2, e3, e4, e5⟩ := hM
  subst e1 e2 e3 e4 e5
  obtain ⟨hG, hT, hS, hPl, hNo, hTa, hA, hJ, hR, hD⟩ := id hK
  have hr4 := hG.r4
  have hb7 := hG.b7
  have hs6 := hS.1
  have hp8 := hPl.1
  have hn8 := hNo.1
  have ht100 := hTa.1
  have ha5 := hA.1
  have hd9 := hD.1
  show Ev G μ 5 0 0 0 [(0, .ref m), (1, .int n), (2, .int w)] [] σ
  refine e_iload_n (pc := 0) Xc (dT hX7_on 0 rfl) 2 rfl ?_
  refine e_iconst (v := 0) (pc := 1) Xc (dT hX7_on 1 rfl) rfl ?_
  refine e_iconst (v := 1) (pc := 2) Xc (dT hX7_on 2 rfl) rfl ?_
  refine cl_X7_50 (pc := 3) (k := 0) (n := 0) (S := []) Xc (c_in w 0 1) (dT hX7_on 3 rfl) rfl (Nat.le_of_ble_eq_true rfl) (Nat.le_of_ble_eq_true rfl) (Nat.le_of_ble_eq_true rfl) rfl (Nat.le_of_ble_eq_true rfl) (fun r1 σ2 hq3 => ?_)
  obtain ⟨r1e, r1s⟩ := hq3
  have r1e := r1e.symm; subst r1e; have r1s := r1s.symm; subst r1s
  refine e_if_ne (tgt := 24) (pc := 6) Xc (dT hX7_on 4 rfl) rfl (fun c6 => ?_) (fun c6 => ?_)
  · skip
    obtain ⟨wk_, hwk_, rfl⟩ := in_N (w := w) (n := 1) (by omega) (by have hcc := c6; simp only [bI_0, bI_1, Bool.not_eq_true, Bool.not_eq_false] at hcc; exact hcc)
    have hc_wk_ : cl (nI wk_) = wk_ := cl_nI (by omega)
    rcases (show wk_ = 0 ∨ wk_ = 1 by omega) with rfl | rfl
    · skip
      refine e_iload_n (pc := 24) Xc (dT hX7_on 13 rfl) 1 rfl ?_
      refine e_iconst (v := 0) (pc := 25) Xc (dT hX7_on 14 rfl) rfl ?_
      refine e_bipush (v := 40) (pc := 26) Xc (dT hX7_on 15 rfl) rfl ?_
      refine cl_X7_50 (pc := 28) (k := 0) (n := 0) (S := []) Xc (c_in n 0 40) (dT hX7_on 16 rfl) rfl (Nat.le_of_ble_eq_true rfl) (Nat.le_of_ble_eq_true rfl) (Nat.le_of_ble_eq_true rfl) rfl (Nat.le_of_ble_eq_true rfl) (fun r4 σ5 hq6 => ?_)
      obtain ⟨r4e, r4s⟩ := hq6
      have r4e := r4e.symm; subst r4e; have r4s := r4s.symm; subst r4s
      refine e_if_ne (tgt := 38) (pc := 31) Xc (dT hX7_on 17 rfl) rfl (fun c31 => ?_) (fun c31 => ?_)
      · skip
        obtain ⟨kn_, hkn_, rfl⟩ := in_N (w := n) (n := 40) (by omega) (by have hcc := c31; simp only [bI_0, bI_1, Bool.not_eq_true, Bool.not_eq_false] at hcc; exact hcc)
        have hc_kn_ : cl (nI kn_) = kn_ := cl_nI (by omega)
        refine e_aload_n (pc := 38) Xc (dT hX7_on 20 rfl) 0 rfl ?_
        refine cl_X7_202 (pc := 39) (k := 0) (n := 0) (S := []) Xc hP.o (c_keeps hP) (dT hX7_on 21 rfl) rfl (Nat.le_of_ble_eq_true rfl) (Nat.le_of_ble_eq_true rfl) (Nat.le_of_ble_eq_true rfl) rfl (Nat.le_of_ble_eq_true rfl) (fun σ8 hq9 => ?_)
        obtain ⟨fr, hP10, hf0, ho11⟩ := hq9
        obtain ⟨B, hP10, b1, b2, b11, hf⟩ : ∃ B, PX7 σ8 m F T B ∧ A 1 = B 1 ∧ A 2 = B 2 ∧ A 11 = B 11 ∧ ∀ j, j < 12 → B 3 j = B 1 j := ⟨_, hP10, rfl, rfl, rfl, hf0⟩
        rw [b1] at hK
        rw [b1, b2, b11] at hQ
        try simp only [b1] at *
        obtain ⟨hG, hT, hS, hPl, hNo, hTa, hA, hJ, hR, hD⟩ := id hK
        refine e_iconst (v := 0) (pc := 42) Xc (dT hX7_on 22 rfl) rfl ?_
        refine e_istore_n (L' := [(3, .int 0), (0, .ref m), (1, .int (nI kn_)), (2, .int 0)]) (pc := 43) Xc (dT hX7_on 23 rfl) (by decide) rfl ?_
        refine e_iconst (v := 0) (pc := 44) Xc (dT hX7_on 24 rfl) rfl ?_
        refine e_istore (L' := [(4, .int 0), (3, .int 0), (0, .ref m), (1, .int (nI kn_)), (2, .int 0)]) (pc := 45) Xc (dT hX7_on 25 rfl) (by decide) rfl ?_
        have lp47 : ∀ (n47 : Nat) (d_ : Nat) (ac_ : Int32) (X1 : Nat → Int32) (σ2 : xS), kn_ - d_ < n47 → (d_ ≤ kn_) → ((ac_, X1) = daysF (B 1) t nr nb d_) → (Gd X1 nr nb) → (Hd X1 t) → (PX7 σ2 m F T (upA B 1 X1)) → (Off m σ σ2) → Ev G μ 5 0 0 47 [(0, .ref m), (1, .int (nI kn_)), (2, .int 0), (4, .int (nI d_)), (3, .int ac_)] [] σ2 := by
          intro n47
          induction n47 with
          | zero => intro d_ ac_ X1 σ2 hn; exact absurd hn (Nat.not_lt_zero _)
          | succ n47 ih47 =>
            intro d_ ac_ X1 σ2 hn47 hd_ hq_ hG1 hT1 hp ho
            refine e_iload (pc := 47) Xc (dT hX7_on 26 rfl) 3 rfl ?_
            refine e_iload_n (pc := 49) Xc (dT hX7_on 27 rfl) 1 rfl ?_
            refine e_icmp_geN (x := d_) (y := kn_) (tgt := 66) (pc := 50) Xc (dT hX7_on 28 rfl) rfl (by omega) (by omega) (fun c50 => ?_) (fun c50 => ?_)
            · skip
              have hde_ : kn_ = d_ := by omega
              subst hde_
              have hq1_ : (daysF (B 1) t nr nb kn_).1 = ac_ := (congrArg Prod.fst hq_).symm
              have hq2_ : (daysF (B 1) t nr nb kn_).2 = X1 := (congrArg Prod.snd hq_).symm
              refine e_iload_n (pc := 66) Xc (dT hX7_on 36 rfl) 2 rfl ?_
              refine e_if_ne (tgt := 74) (pc := 67) Xc (dT hX7_on 37 rfl) rfl (fun c67 => ?_) (fun c67 => ?_)
              · skip
                exact absurd c67 (by decide)
              · skip
                refine e_iload_n (pc := 70) Xc (dT hX7_on 38 rfl) 4 rfl ?_
                refine e_goto (tgt := 101) (pc := 71) Xc (dT hX7_on 39 rfl) rfl ?_
                refine e_istore (L' := [(4, .int ac_), (0, .ref m), (1, .int (nI kn_)), (2, .int 0), (3, .int ac_)]) (pc := 101) Xc (dT hX7_on 56 rfl) (by decide) rfl ?_
                refine e_aload_n (pc := 103) Xc (dT hX7_on 57 rfl) 1 rfl ?_
                refine cl_X7_205 (pc := 104) (k := 0) (n := 0) (S := []) Xc hp.o (c_goesBack hp) (dT hX7_on 58 rfl) rfl (Nat.le_of_ble_eq_true rfl) (Nat.le_of_ble_eq_true rfl) (Nat.le_of_ble_eq_true rfl) rfl (Nat.le_of_ble_eq_true rfl) (fun σ13 hq14 => ?_)
                obtain ⟨hP15, ho16⟩ := hq14
                have hP15 : PX7 σ13 m F T (upA B 1 (backF X1 (B 3))) := by rw [upA_2] at hP15; exact hP15
                refine e_iload (pc := 107) Xc (dT hX7_on 59 rfl) 0 rfl ?_
                refine e_iret (pc := 109) Xc hQ (dT hX7_on 60 rfl) (Nat.le_refl _) (Nat.le_refl _) ?_
                have hz : v_on (B 1) t nr nb (nI kn_) (nI 0) = ac_ := by
                  simp only [bI_0, bI_1, Bool.not_eq_true, Bool.not_eq_false, nI_0, nl1, nl2, nl3, nl4, nl5, nl6, nl7, nl8, nl9, nl10] at c6 c31 c50 c67
                  first | (simp [v_on, c6, c31, c50, c67, hc_wk_, hc_kn_, hq1_, hq2_, nI_0, nl1, nl2, nl3, nl4, nl5, nl6, nl7, nl8, nl9, nl10]; done) | (clear hK hG hT hS hPl hNo hTa hA hJ hR hD hQ Xc; simp_all [v_on, nI_0, nl1, nl2, nl3, nl4, nl5, nl6, nl7, nl8, nl9, nl10]; done)
                exact ⟨hz.symm, ⟨_, _, _, hP15, (back_hi hf (fun j hj => by rw [← hq2_]; exact days_hi hr4 (by omega) _)), rfl, rfl, rfl, rfl⟩, (ho.tr ho16)⟩
            · skip
              refine e_iload_n (pc := 53) Xc (dT hX7_on 29 rfl) 4 rfl ?_
              refine e_aload_n (pc := 54) Xc (dT hX7_on 30 rfl) 0 rfl ?_
              refine cl_X7_199 (pc := 55) (k := 0) (n := 0) (S := [.int ac_]) Xc hp.o (c_goes hp hG1 hT1) (dT hX7_on 31 rfl) rfl (Nat.le_of_ble_eq_true rfl) (Nat.le_of_ble_eq_true rfl) (Nat.le_of_ble_eq_true rfl) rfl (Nat.le_of_ble_eq_true rfl) (fun r17 σ18 hq19 => ?_)
              obtain ⟨r17e, hP20, ho21⟩ := hq19
              have r17e := r17e.symm; subst r17e
              have hP20 : PX7 σ18 m F T (upA B 1 ((goF X1 t nr nb).2)) := by rw [upA_2] at hP20; exact hP20
              refine e_val (y := (goF X1 t nr nb).1) rfl ?_
              refine e_iadd (pc := 58) Xc (dT hX7_on 32 rfl) ?_
              refine e_istore_n (L' := [(3, .int (ac_ + ((goF X1 t nr nb).1))), (0, .ref m), (1, .int (nI kn_)), (2, .int 0), (4, .int (nI d_))]) (pc := 59) Xc (dT hX7_on 33 rfl) (by decide) rfl ?_
              refine e_iincN (a := d_) (b := 1) (L' := [(4, .int (nI (d_ + 1))), (3, .int (ac_ + ((goF X1 t nr nb).1))), (0, .ref m), (1, .int (nI kn_)), (2, .int 0)]) (pc := 60) Xc (dT hX7_on 34 rfl) 4 rfl rfl (by decide) rfl ?_
              refine e_goto (tgt := 47) (pc := 63) Xc (dT hX7_on 35 rfl) rfl ?_
              refine Ev.pick (L' := [(0, .ref m), (1, .int (nI kn_)), (2, .int 0), (4, .int (nI (d_ + 1))), (3, .int (ac_ + ((goF X1 t nr nb).1)))]) [2, 3, 4, 0, 1] rfl ?_
              exact ih47 (d_ + 1) (ac_ + ((goF X1 t nr nb).1)) ((goF X1 t nr nb).2) σ18 (by omega) (by omega) (by show _ = ((daysF (B 1) t nr nb d_).1 + (goF (daysF (B 1) t nr nb d_).2 t nr nb).1, (goF (daysF (B 1) t nr nb d_).2 t nr nb).2); rw [← hq_]) (Gd.go hG1 hT1) (Hd.go hT1 hG1) hP20 (ho.tr ho21)
        refine Ev.pick (L' := [(0, .ref m), (1, .int (nI kn_)), (2, .int 0), (4, .int 0), (3, .int 0)]) [2, 3, 4, 0, 1] rfl ?_
        exact lp47 ((kn_ - 0) + 1) 0 0 (B 1) σ8 (Nat.lt_succ_self _) (Nat.zero_le _) rfl hG hT (by rw [upA_id]; exact hP10) ho11
      · skip
        refine e_sipush (v := -10002) (pc := 34) Xc (dT hX7_on 18 rfl) rfl ?_
        refine e_iret (pc := 37) Xc hQ (dT hX7_on 19 rfl) (Nat.le_refl _) (Nat.le_refl _) ?_
        have hz : v_on (A 1) t nr nb n (nI 0) = (-10002) := by
          simp only [bI_0, bI_1, Bool.not_eq_true, Bool.not_eq_false, nI_0, nl1, nl2, nl3, nl4, nl5, nl6, nl7, nl8, nl9, nl10] at c6 c31
          first | (simp [v_on, c6, c31, hc_wk_, nI_0, nl1, nl2, nl3, nl4, nl5, nl6, nl7, nl8, nl9, nl10]; done) | (clear hK hG hT hS hPl hNo hTa hA hJ hR hD hQ Xc; simp_all [v_on, nI_0, nl1, nl2, nl3, nl4, nl5, nl6, nl7, nl8, nl9, nl10]; done)
        exact ⟨hz.symm, ⟨_, _, _, hP, rfl, rfl, rfl, rfl, rfl⟩, Off.rf⟩
    · skip
      refine e_iload_n (pc := 24) Xc (dT hX7_on 13 rfl) 1 rfl ?_
      refine e_iconst (v := 0) (pc := 25) Xc (dT hX7_on 14 rfl) rfl ?_
      refine e_bipush (v := 40) (pc := 26) Xc (dT hX7_on 15 rfl) rfl ?_
      refine cl_X7_50 (pc := 28) (k := 0) (n := 0) (S := []) Xc (c_in n 0 40) (dT hX7_on 16 rfl) rfl (Nat.le_of_ble_eq_true rfl) (Nat.le_of_ble_eq_true rfl) (Nat.le_of_ble_eq_true rfl) rfl (Nat.le_of_ble_eq_true rfl) (fun r22 σ23 hq24 => ?_)
      obtain ⟨r22e, r22s⟩ := hq24
      have r22e := r22e.symm; subst r22e; have r22s := r22s.symm; subst r22s
      refine e_if_ne (tgt := 38) (pc := 31) Xc (dT hX7_on 17 rfl) rfl (fun c31 => ?_) (fun c31 => ?_)
      · skip
        obtain ⟨kn_, hkn_, rfl⟩ := in_N (w := n) (n := 40) (by omega) (by have hcc := c31; simp only [bI_0, bI_1, Bool.not_eq_true, Bool.not_eq_false] at hcc; exact hcc)
        have hc_kn_ : cl (nI kn_) = kn_ := cl_nI (by omega)
        refine e_aload_n (pc := 38) Xc (dT hX7_on 20 rfl) 0 rfl ?_
        refine cl_X7_202 (pc := 39) (k := 0) (n := 0) (S := []) Xc hP.o (c_keeps hP) (dT hX7_on 21 rfl) rfl (Nat.le_of_ble_eq_true rfl) (Nat.le_of_ble_eq_true rfl) (Nat.le_of_ble_eq_true rfl) rfl (Nat.le_of_ble_eq_true rfl) (fun σ26 hq27 => ?_)
        obtain ⟨fr, hP28, hf0, ho29⟩ := hq27
        obtain ⟨B, hP28, b1, b2, b11, hf⟩ : ∃ B, PX7 σ26 m F T B ∧ A 1 = B 1 ∧ A 2 = B 2 ∧ A 11 = B 11 ∧ ∀ j, j < 12 → B 3 j = B 1 j := ⟨_, hP28, rfl, rfl, rfl, hf0⟩
        rw [b1] at hK
        rw [b1, b2, b11] at hQ
        try simp only [b1] at *
        obtain ⟨hG, hT, hS, hPl, hNo, hTa, hA, hJ, hR, hD⟩ := id hK
        refine e_iconst (v := 0) (pc := 42) Xc (dT hX7_on 22 rfl) rfl ?_
        refine e_istore_n (L' := [(3, .int 0), (0, .ref m), (1, .int (nI kn_)), (2, .int 1)]) (pc := 43) Xc (dT hX7_on 23 rfl) (by decide) rfl ?_
        refine e_iconst (v := 0) (pc := 44) Xc (dT hX7_on 24 rfl) rfl ?_
        refine e_istore (L' := [(4, .int 0), (3, .int 0), (0, .ref m), (1, .int (nI kn_)), (2, .int 1)]) (pc := 45) Xc (dT hX7_on 25 rfl) (by decide) rfl ?_
        have lp47 : ∀ (n47 : Nat) (d_ : Nat) (ac_ : Int32) (X1 : Nat → Int32) (σ2 : xS), kn_ - d_ < n47 → (d_ ≤ kn_) → ((ac_, X1) = daysF (B 1) t nr nb d_) → (Gd X1 nr nb) → (Hd X1 t) → (PX7 σ2 m F T (upA B 1 X1)) → (Off m σ σ2) → Ev G μ 5 0 0 47 [(0, .ref m), (1, .int (nI kn_)), (2, .int 1), (4, .int (nI d_)), (3, .int ac_)] [] σ2 := by
          intro n47
          induction n47 with
          | zero => intro d_ ac_ X1 σ2 hn; exact absurd hn (Nat.not_lt_zero _)
          | succ n47 ih47 =>
            intro d_ ac_ X1 σ2 hn47 hd_ hq_ hG1 hT1 hp ho
            refine e_iload (pc := 47) Xc (dT hX7_on 26 rfl) 3 rfl ?_
            refine e_iload_n (pc := 49) Xc (dT hX7_on 27 rfl) 1 rfl ?_
            refine e_icmp_geN (x := d_) (y := kn_) (tgt := 66) (pc := 50) Xc (dT hX7_on 28 rfl) rfl (by omega) (by omega) (fun c50 => ?_) (fun c50 => ?_)
            · skip
              have hde_ : kn_ = d_ := by omega
              subst hde_
              have hq1_ : (daysF (B 1) t nr nb kn_).1 = ac_ := (congrArg Prod.fst hq_).symm
              have hq2_ : (daysF (B 1) t nr nb kn_).2 = X1 := (congrArg Prod.snd hq_).symm
              refine e_iload_n (pc := 66) Xc (dT hX7_on 36 rfl) 2 rfl ?_
              refine e_if_ne (tgt := 74) (pc := 67) Xc (dT hX7_on 37 rfl) rfl (fun c67 => ?_) (fun c67 => ?_)
              · skip
                refine e_iload_n (pc := 74) Xc (dT hX7_on 40 rfl) 2 rfl ?_
                refine e_iconst (v := 1) (pc := 75) Xc (dT hX7_on 41 rfl) rfl ?_
                refine e_icmp_neN (x := 1) (y := 1) (tgt := 86) (pc := 76) Xc (dT hX7_on 42 rfl) rfl (by omega) (by omega) (fun c76 => ?_) (fun c76 => ?_)
                · skip
                  exact absurd c76 (by decide)
                · skip
                  refine e_aload_n (pc := 79) Xc (dT hX7_on 43 rfl) 0 rfl ?_
                  refine cl_X7_183 (pc := 80) (k := 0) (n := 0) (S := []) Xc hp.o (c_totalNow hp hG1 hT1) (dT hX7_on 44 rfl) rfl (Nat.le_of_ble_eq_true rfl) (Nat.le_of_ble_eq_true rfl) (Nat.le_of_ble_eq_true rfl) rfl (Nat.le_of_ble_eq_true rfl) (fun r30 σ31 hq32 => ?_)
                  obtain ⟨r30e, hP33, ho34⟩ := hq32
                  have r30e := r30e.symm; subst r30e
                  refine e_val (y := totF X1 t nr) rfl ?_
                  refine e_goto (tgt := 101) (pc := 83) Xc (dT hX7_on 45 rfl) rfl ?_
                  refine e_istore (L' := [(4, .int (totF X1 t nr)), (0, .ref m), (1, .int (nI kn_)), (2, .int 1), (3, .int ac_)]) (pc := 101) Xc (dT hX7_on 56 rfl) (by decide) rfl ?_
                  refine e_aload_n (pc := 103) Xc (dT hX7_on 57 rfl) 1 rfl ?_
                  refine cl_X7_205 (pc := 104) (k := 0) (n := 0) (S := []) Xc hP33.o (c_goesBack hP33) (dT hX7_on 58 rfl) rfl (Nat.le_of_ble_eq_true rfl) (Nat.le_of_ble_eq_true rfl) (Nat.le_of_ble_eq_true rfl) rfl (Nat.le_of_ble_eq_true rfl) (fun σ36 hq37 => ?_)
                  obtain ⟨hP38, ho39⟩ := hq37
                  have hP38 : PX7 σ36 m F T (upA B 1 (backF X1 (B 3))) := by rw [upA_2] at hP38; exact hP38
                  refine e_iload (pc := 107) Xc (dT hX7_on 59 rfl) 0 rfl ?_
                  refine e_iret (pc := 109) Xc hQ (dT hX7_on 60 rfl) (Nat.le_refl _) (Nat.le_refl _) ?_
                  have hz : v_on (B 1) t nr nb (nI kn_) (nI 1) = totF X1 t nr := by
                    simp only [bI_0, bI_1, Bool.not_eq_true, Bool.not_eq_false, nI_0, nl1, nl2, nl3, nl4, nl5, nl6, nl7, nl8, nl9, nl10] at c6 c31 c50 c67 c76
                    first | (simp [v_on, c6, c31, c50, c67, c76, hc_wk_, hc_kn_, hq1_, hq2_, nI_0, nl1, nl2, nl3, nl4, nl5, nl6, nl7, nl8, nl9, nl10]; done) | (clear hK hG hT hS hPl hNo hTa hA hJ hR hD hQ Xc; simp_all [v_on, nI_0, nl1, nl2, nl3, nl4, nl5, nl6, nl7, nl8, nl9, nl10]; done)
                  exact ⟨hz.symm, ⟨_, _, _, hP38, (back_hi hf (fun j hj => by rw [← hq2_]; exact days_hi hr4 (by omega) _)), rfl, rfl, rfl, rfl⟩, ((ho.tr ho34).tr ho39)⟩
              · skip
                exact absurd c67 (by decide)
            · skip
              refine e_iload_n (pc := 53) Xc (dT hX7_on 29 rfl) 4 rfl ?_
              refine e_aload_n (pc := 54) Xc (dT hX7_on 30 rfl) 0 rfl ?_
              refine cl_X7_199 (pc := 55) (k := 0) (n := 0) (S := [.int ac_]) Xc hp.o (c_goes hp hG1 hT1) (dT hX7_on 31 rfl) rfl (Nat.le_of_ble_eq_true rfl) (Nat.le_of_ble_eq_true rfl) (Nat.le_of_ble_eq_true rfl) rfl (Nat.le_of_ble_eq_true rfl) (fun r40 σ41 hq42 => ?_)
              obtain ⟨r40e, hP43, ho44⟩ := hq42
              have r40e := r40e.symm; subst r40e
              have hP43 : PX7 σ41 m F T (upA B 1 ((goF X1 t nr nb).2)) := by rw [upA_2] at hP43; exact hP43
              refine e_val (y := (goF X1 t nr nb).1) rfl ?_
              refine e_iadd (pc := 58) Xc (dT hX7_on 32 rfl) ?_
              refine e_istore_n (L' := [(3, .int (ac_ + ((goF X1 t nr nb).1))), (0, .ref m), (1, .int (nI kn_)), (2, .int 1), (4, .int (nI d_))]) (pc := 59) Xc (dT hX7_on 33 rfl) (by decide) rfl ?_
              refine e_iincN (a := d_) (b := 1) (L' := [(4, .int (nI (d_ + 1))), (3, .int (ac_ + ((goF X1 t nr nb).1))), (0, .ref m), (1, .int (nI kn_)), (2, .int 1)]) (pc := 60) Xc (dT hX7_on 34 rfl) 4 rfl rfl (by decide) rfl ?_
              refine e_goto (tgt := 47) (pc := 63) Xc (dT hX7_on 35 rfl) rfl ?_
              refine Ev.pick (L' := [(0, .ref m), (1, .int (nI kn_)), (2, .int 1), (4, .int (nI (d_ + 1))), (3, .int (ac_ + ((goF X1 t nr nb).1)))]) [2, 3, 4, 0, 1] rfl ?_
              exact ih47 (d_ + 1) (ac_ + ((goF X1 t nr nb).1)) ((goF X1 t nr nb).2) σ41 (by omega) (by omega) (by show _ = ((daysF (B 1) t nr nb d_).1 + (goF (daysF (B 1) t nr nb d_).2 t nr nb).1, (goF (daysF (B 1) t nr nb d_).2 t nr nb).2); rw [← hq_]) (Gd.go hG1 hT1) (Hd.go hT1 hG1) hP43 (ho.tr ho44)
        refine Ev.pick (L' := [(0, .ref m), (1, .int (nI kn_)), (2, .int 1), (4, .int 0), (3, .int 0)]) [2, 3, 4, 0, 1] rfl ?_
        exact lp47 ((kn_ - 0) + 1) 0 0 (B 1) σ26 (Nat.lt_succ_self _) (Nat.zero_le _) rfl hG hT (by rw [upA_id]; exact hP28) ho29
      · skip
        refine e_sipush (v := -10002) (pc := 34) Xc (dT hX7_on 18 rfl) rfl ?_
        refine e_iret (pc := 37) Xc hQ (dT hX7_on 19 rfl) (Nat.le_refl _) (Nat.le_refl _) ?_
        have hz : v_on (A 1) t nr nb n (nI 1) = (-10002) := by
          simp only [bI_0, bI_1, Bool.not_eq_true, Bool.not_eq_false, nI_0, nl1, nl2, nl3, nl4, nl5, nl6, nl7, nl8, nl9, nl10] at c6 c31
          first | (simp [v_on, c6, c31, hc_wk_, nI_0, nl1, nl2, nl3, nl4, nl5, nl6, nl7, nl8, nl9, nl10]; done) | (clear hK hG hT hS hPl hNo hTa hA hJ hR hD hQ Xc; simp_all [v_on, nI_0, nl1, nl2, nl3, nl4, nl5, nl6, nl7, nl8, nl9, nl10]; done)
        exact ⟨hz.symm, ⟨_, _, _, hP, rfl, rfl, rfl, rfl, rfl⟩, Off.rf⟩
  · skip
    refine e_aload_n (pc := 9) Xc (dT hX7_on 5 rfl) 0 rfl ?_
    refine e_iload_n (pc := 10) Xc (dT hX7_on 6 rfl) 2 rfl ?_
    refine e_bipush (v := 10) (pc := 11) Xc (dT hX7_on 7 rfl) rfl ?_
    refine e_isub (pc := 13) Xc (dT hX7_on 8 rfl) ?_
    refine cl_X7_165 (pc := 14) (k := 0) (n := 0) (S := []) Xc hP.o (c_isReader hP hG (w - 10)) (dT hX7_on 9 rfl) rfl (Nat.le_of_ble_eq_true rfl) (Nat.le_of_ble_eq_true rfl) (Nat.le_of_ble_eq_true rfl) rfl (Nat.le_of_ble_eq_true rfl) (fun r45 σ46 hq47 => ?_)
    obtain ⟨r45e, r45s⟩ := hq47
    have r45e := r45e.symm; subst r45e; have r45s := r45s.symm; subst r45s
    refine e_if_ne (tgt := 24) (pc := 17) Xc (dT hX7_on 10 rfl) rfl (fun c17 => ?_) (fun c17 => ?_)
    · skip
      obtain ⟨q_, hq_r, hqe_⟩ := inF_nat (v := w - 10) (n := nr) (by omega) (by simpa [bI_0] using c17)
      have hc_q : cl (w - 10) = q_ := by rw [hqe_]; exact cl_nI (by omega)
      refine e_iload_n (pc := 24) Xc (dT hX7_on 13 rfl) 1 rfl ?_
      refine e_iconst (v := 0) (pc := 25) Xc (dT hX7_on 14 rfl) rfl ?_
      refine e_bipush (v := 40) (pc := 26) Xc (dT hX7_on 15 rfl) rfl ?_
      refine cl_X7_50 (pc := 28) (k := 0) (n := 0) (S := []) Xc (c_in n 0 40) (dT hX7_on 16 rfl) rfl (Nat.le_of_ble_eq_true rfl) (Nat.le_of_ble_eq_true rfl) (Nat.le_of_ble_eq_true rfl) rfl (Nat.le_of_ble_eq_true rfl) (fun r48 σ49 hq50 => ?_)
      obtain ⟨r48e, r48s⟩ := hq50
      have r48e := r48e.symm; subst r48e; have r48s := r48s.symm; subst r48s
      refine e_if_ne (tgt := 38) (pc := 31) Xc (dT hX7_on 17 rfl) rfl (fun c31 => ?_) (fun c31 => ?_)
      · skip
        obtain ⟨kn_, hkn_, rfl⟩ := in_N (w := n) (n := 40) (by omega) (by have hcc := c31; simp only [bI_0, bI_1, Bool.not_eq_true, Bool.not_eq_false] at hcc; exact hcc)
        have hc_kn_ : cl (nI kn_) = kn_ := cl_nI (by omega)
        refine e_aload_n (pc := 38) Xc (dT hX7_on 20 rfl) 0 rfl ?_
        refine cl_X7_202 (pc := 39) (k := 0) (n := 0) (S := []) Xc hP.o (c_keeps hP) (dT hX7_on 21 rfl) rfl (Nat.le_of_ble_eq_true rfl) (Nat.le_of_ble_eq_true rfl) (Nat.le_of_ble_eq_true rfl) rfl (Nat.le_of_ble_eq_true rfl) (fun σ52 hq53 => ?_)
        obtain ⟨fr, hP54, hf0, ho55⟩ := hq53
        obtain ⟨B, hP54, b1, b2, b11, hf⟩ : ∃ B, PX7 σ52 m F T B ∧ A 1 = B 1 ∧ A 2 = B 2 ∧ A 11 = B 11 ∧ ∀ j, j < 12 → B 3 j = B 1 j := ⟨_, hP54, rfl, rfl, rfl, hf0⟩
        rw [b1] at hK
        rw [b1, b2, b11] at hQ
        try simp only [b1] at *
        obtain ⟨hG, hT, hS, hPl, hNo, hTa, hA, hJ, hR, hD⟩ := id hK
        refine e_iconst (v := 0) (pc := 42) Xc (dT hX7_on 22 rfl) rfl ?_
        refine e_istore_n (L' := [(3, .int 0), (0, .ref m), (1, .int (nI kn_)), (2, .int w)]) (pc := 43) Xc (dT hX7_on 23 rfl) (by decide) rfl ?_
        refine e_iconst (v := 0) (pc := 44) Xc (dT hX7_on 24 rfl) rfl ?_
        refine e_istore (L' := [(4, .int 0), (3, .int 0), (0, .ref m), (1, .int (nI kn_)), (2, .int w)]) (pc := 45) Xc (dT hX7_on 25 rfl) (by decide) rfl ?_
        have lp47 : ∀ (n47 : Nat) (d_ : Nat) (ac_ : Int32) (X1 : Nat → Int32) (σ2 : xS), kn_ - d_ < n47 → (d_ ≤ kn_) → ((ac_, X1) = daysF (B 1) t nr nb d_) → (Gd X1 nr nb) → (Hd X1 t) → (PX7 σ2 m F T (upA B 1 X1)) → (Off m σ σ2) → Ev G μ 5 0 0 47 [(0, .ref m), (1, .int (nI kn_)), (2, .int w), (4, .int (nI d_)), (3, .int ac_)] [] σ2 := by
          intro n47
          induction n47 with
          | zero => intro d_ ac_ X1 σ2 hn; exact absurd hn (Nat.not_lt_zero _)
          | succ n47 ih47 =>
            intro d_ ac_ X1 σ2 hn47 hd_ hq_ hG1 hT1 hp ho
            refine e_iload (pc := 47) Xc (dT hX7_on 26 rfl) 3 rfl ?_
            refine e_iload_n (pc := 49) Xc (dT hX7_on 27 rfl) 1 rfl ?_
            refine e_icmp_geN (x := d_) (y := kn_) (tgt := 66) (pc := 50) Xc (dT hX7_on 28 rfl) rfl (by omega) (by omega) (fun c50 => ?_) (fun c50 => ?_)
            · skip
              have hde_ : kn_ = d_ := by omega
              subst hde_
              have hq1_ : (daysF (B 1) t nr nb kn_).1 = ac_ := (congrArg Prod.fst hq_).symm
              have hq2_ : (daysF (B 1) t nr nb kn_).2 = X1 := (congrArg Prod.snd hq_).symm
              refine e_iload_n (pc := 66) Xc (dT hX7_on 36 rfl) 2 rfl ?_
              refine e_if_ne (tgt := 74) (pc := 67) Xc (dT hX7_on 37 rfl) rfl (fun c67 => ?_) (fun c67 => ?_)
              · skip
                refine e_iload_n (pc := 74) Xc (dT hX7_on 40 rfl) 2 rfl ?_
                refine e_iconst (v := 1) (pc := 75) Xc (dT hX7_on 41 rfl) rfl ?_
                refine e_icmp_ne (tgt := 86) (pc := 76) Xc (dT hX7_on 42 rfl) rfl (fun c76 => ?_) (fun c76 => ?_)
                · skip
                  refine e_aload_n (pc := 86) Xc (dT hX7_on 46 rfl) 0 rfl ?_
                  refine e_aload_n (pc := 87) Xc (dT hX7_on 47 rfl) 0 rfl ?_
                  refine gf_X7_9 (pc := 88) Xc (dT hX7_on 48 rfl) hp.o rfl ?_
                  refine e_iconst (v := 1) (pc := 91) Xc (dT hX7_on 49 rfl) rfl ?_
                  refine e_iload_n (pc := 92) Xc (dT hX7_on 50 rfl) 2 rfl ?_
                  refine e_iadd (pc := 93) Xc (dT hX7_on 51 rfl) ?_
                  refine e_bipush (v := 10) (pc := 94) Xc (dT hX7_on 52 rfl) rfl ?_
                  refine e_isub (pc := 96) Xc (dT hX7_on 53 rfl) ?_
                  refine e_val (y := nI (1 + q_)) (idx10 hqe_) ?_
                  refine e_ialdN (pc := 97) Xc (dT hX7_on 54 rfl) hp.a1 (by decide) rfl (1 + q_) rfl (by omega) (by decide) ?_
                  refine e_val (y := X1 (1 + q_)) rfl ?_
                  refine cl_X7_168 (pc := 98) (k := 0) (n := 0) (S := []) Xc hp.o (c_orNone hp (X1 (1 + q_))) (dT hX7_on 55 rfl) rfl (Nat.le_of_ble_eq_true rfl) (Nat.le_of_ble_eq_true rfl) (Nat.le_of_ble_eq_true rfl) rfl (Nat.le_of_ble_eq_true rfl) (fun r56 σ57 hq58 => ?_)
                  obtain ⟨r56e, r56s⟩ := hq58
                  have r56e := r56e.symm; subst r56e; have r56s := r56s.symm; subst r56s
                  refine e_val (y := orN (X1 (1 + q_))) rfl ?_
                  refine e_istore (L' := [(4, .int (orN (X1 (1 + q_)))), (0, .ref m), (1, .int (nI kn_)), (2, .int w), (3, .int ac_)]) (pc := 101) Xc (dT hX7_on 56 rfl) (by decide) rfl ?_
                  refine e_aload_n (pc := 103) Xc (dT hX7_on 57 rfl) 1 rfl ?_
                  refine cl_X7_205 (pc := 104) (k := 0) (n := 0) (S := []) Xc hp.o (c_goesBack hp) (dT hX7_on 58 rfl) rfl (Nat.le_of_ble_eq_true rfl) (Nat.le_of_ble_eq_true rfl) (Nat.le_of_ble_eq_true rfl) rfl (Nat.le_of_ble_eq_true rfl) (fun σ60 hq61 => ?_)
                  obtain ⟨hP62, ho63⟩ := hq61
                  have hP62 : PX7 σ60 m F T (upA B 1 (backF X1 (B 3))) := by rw [upA_2] at hP62; exact hP62
                  refine e_iload (pc := 107) Xc (dT hX7_on 59 rfl) 0 rfl ?_
                  refine e_iret (pc := 109) Xc hQ (dT hX7_on 60 rfl) (Nat.le_refl _) (Nat.le_refl _) ?_
                  have hz : v_on (B 1) t nr nb (nI kn_) w = orN (X1 (1 + q_)) := by
                    simp only [bI_0, bI_1, Bool.not_eq_true, Bool.not_eq_false, nI_0, nl1, nl2, nl3, nl4, nl5, nl6, nl7, nl8, nl9, nl10] at c6 c17 c31 c50 c67 c76
                    first | (simp [v_on, c6, c17, c31, c50, c67, c76, hc_q, hc_kn_, hq1_, hq2_, nI_0, nl1, nl2, nl3, nl4, nl5, nl6, nl7, nl8, nl9, nl10]; done) | (clear hK hG hT hS hPl hNo hTa hA hJ hR hD hQ Xc; simp_all [v_on, nI_0, nl1, nl2, nl3, nl4, nl5, nl6, nl7, nl8, nl9, nl10]; done)
                  exact ⟨hz.symm, ⟨_, _, _, hP62, (back_hi hf (fun j hj => by rw [← hq2_]; exact days_hi hr4 (by omega) _)), rfl, rfl, rfl, rfl⟩, (ho.tr ho63)⟩
                · skip
                  refine e_aload_n (pc := 79) Xc (dT hX7_on 43 rfl) 0 rfl ?_
                  refine cl_X7_183 (pc := 80) (k := 0) (n := 0) (S := []) Xc hp.o (c_totalNow hp hG1 hT1) (dT hX7_on 44 rfl) rfl (Nat.le_of_ble_eq_true rfl) (Nat.le_of_ble_eq_true rfl) (Nat.le_of_ble_eq_true rfl) rfl (Nat.le_of_ble_eq_true rfl) (fun r64 σ65 hq66 => ?_)
                  obtain ⟨r64e, hP67, ho68⟩ := hq66
                  have r64e := r64e.symm; subst r64e
                  refine e_val (y := totF X1 t nr) rfl ?_
                  refine e_goto (tgt := 101) (pc := 83) Xc (dT hX7_on 45 rfl) rfl ?_
                  refine e_istore (L' := [(4, .int (totF X1 t nr)), (0, .ref m), (1, .int (nI kn_)), (2, .int w), (3, .int ac_)]) (pc := 101) Xc (dT hX7_on 56 rfl) (by decide) rfl ?_
                  refine e_aload_n (pc := 103) Xc (dT hX7_on 57 rfl) 1 rfl ?_
                  refine cl_X7_205 (pc := 104) (k := 0) (n := 0) (S := []) Xc hP67.o (c_goesBack hP67) (dT hX7_on 58 rfl) rfl (Nat.le_of_ble_eq_true rfl) (Nat.le_of_ble_eq_true rfl) (Nat.le_of_ble_eq_true rfl) rfl (Nat.le_of_ble_eq_true rfl) (fun σ70 hq71 => ?_)
                  obtain ⟨hP72, ho73⟩ := hq71
                  have hP72 : PX7 σ70 m F T (upA B 1 (backF X1 (B 3))) := by rw [upA_2] at hP72; exact hP72
                  refine e_iload (pc := 107) Xc (dT hX7_on 59 rfl) 0 rfl ?_
                  refine e_iret (pc := 109) Xc hQ (dT hX7_on 60 rfl) (Nat.le_refl _) (Nat.le_refl _) ?_
                  have hz : v_on (B 1) t nr nb (nI kn_) w = totF X1 t nr := by
                    simp only [bI_0, bI_1, Bool.not_eq_true, Bool.not_eq_false, nI_0, nl1, nl2, nl3, nl4, nl5, nl6, nl7, nl8, nl9, nl10] at c6 c17 c31 c50 c67 c76
                    first | (simp [v_on, c6, c17, c31, c50, c67, c76, hc_q, hc_kn_, hq1_, hq2_, nI_0, nl1, nl2, nl3, nl4, nl5, nl6, nl7, nl8, nl9, nl10]; done) | (clear hK hG hT hS hPl hNo hTa hA hJ hR hD hQ Xc; simp_all [v_on, nI_0, nl1, nl2, nl3, nl4, nl5, nl6, nl7, nl8, nl9, nl10]; done)
                  exact ⟨hz.symm, ⟨_, _, _, hP72, (back_hi hf (fun j hj => by rw [← hq2_]; exact days_hi hr4 (by omega) _)), rfl, rfl, rfl, rfl⟩, ((ho.tr ho68).tr ho73)⟩
              · skip
                refine e_iload_n (pc := 70) Xc (dT hX7_on 38 rfl) 4 rfl ?_
                refine e_goto (tgt := 101) (pc := 71) Xc (dT hX7_on 39 rfl) rfl ?_
                refine e_istore (L' := [(4, .int ac_), (0, .ref m), (1, .int (nI kn_)), (2, .int w), (3, .int ac_)]) (pc := 101) Xc (dT hX7_on 56 rfl) (by decide) rfl ?_
                refine e_aload_n (pc := 103) Xc (dT hX7_on 57 rfl) 1 rfl ?_
                refine cl_X7_205 (pc := 104) (k := 0) (n := 0) (S := []) Xc hp.o (c_goesBack hp) (dT hX7_on 58 rfl) rfl (Nat.le_of_ble_eq_true rfl) (Nat.le_of_ble_eq_true rfl) (Nat.le_of_ble_eq_true rfl) rfl (Nat.le_of_ble_eq_true rfl) (fun σ75 hq76 => ?_)
                obtain ⟨hP77, ho78⟩ := hq76
                have hP77 : PX7 σ75 m F T (upA B 1 (backF X1 (B 3))) := by rw [upA_2] at hP77; exact hP77
                refine e_iload (pc := 107) Xc (dT hX7_on 59 rfl) 0 rfl ?_
                refine e_iret (pc := 109) Xc hQ (dT hX7_on 60 rfl) (Nat.le_refl _) (Nat.le_refl _) ?_
                have hz : v_on (B 1) t nr nb (nI kn_) w = ac_ := by
                  simp only [bI_0, bI_1, Bool.not_eq_true, Bool.not_eq_false, nI_0, nl1, nl2, nl3, nl4, nl5, nl6, nl7, nl8, nl9, nl10] at c6 c17 c31 c50 c67
                  first | (simp [v_on, c6, c17, c31, c50, c67, hc_q, hc_kn_, hq1_, hq2_, nI_0, nl1, nl2, nl3, nl4, nl5, nl6, nl7, nl8, nl9, nl10]; done) | (clear hK hG hT hS hPl hNo hTa hA hJ hR hD hQ Xc; simp_all [v_on, nI_0, nl1, nl2, nl3, nl4, nl5, nl6, nl7, nl8, nl9, nl10]; done)
                exact ⟨hz.symm, ⟨_, _, _, hP77, (back_hi hf (fun j hj => by rw [← hq2_]; exact days_hi hr4 (by omega) _)), rfl, rfl, rfl, rfl⟩, (ho.tr ho78)⟩
            · skip
              refine e_iload_n (pc := 53) Xc (dT hX7_on 29 rfl) 4 rfl ?_
              refine e_aload_n (pc := 54) Xc (dT hX7_on 30 rfl) 0 rfl ?_
              refine cl_X7_199 (pc := 55) (k := 0) (n := 0) (S := [.int ac_]) Xc hp.o (c_goes hp hG1 hT1) (dT hX7_on 31 rfl) rfl (Nat.le_of_ble_eq_true rfl) (Nat.le_of_ble_eq_true rfl) (Nat.le_of_ble_eq_true rfl) rfl (Nat.le_of_ble_eq_true rfl) (fun r79 σ80 hq81 => ?_)
              obtain ⟨r79e, hP82, ho83⟩ := hq81
              have r79e := r79e.symm; subst r79e
              have hP82 : PX7 σ80 m F T (upA B 1 ((goF X1 t nr nb).2)) := by rw [upA_2] at hP82; exact hP82
              refine e_val (y := (goF X1 t nr nb).1) rfl ?_
              refine e_iadd (pc := 58) Xc (dT hX7_on 32 rfl) ?_
              refine e_istore_n (L' := [(3, .int (ac_ + ((goF X1 t nr nb).1))), (0, .ref m), (1, .int (nI kn_)), (2, .int w), (4, .int (nI d_))]) (pc := 59) Xc (dT hX7_on 33 rfl) (by decide) rfl ?_
              refine e_iincN (a := d_) (b := 1) (L' := [(4, .int (nI (d_ + 1))), (3, .int (ac_ + ((goF X1 t nr nb).1))), (0, .ref m), (1, .int (nI kn_)), (2, .int w)]) (pc := 60) Xc (dT hX7_on 34 rfl) 4 rfl rfl (by decide) rfl ?_
              refine e_goto (tgt := 47) (pc := 63) Xc (dT hX7_on 35 rfl) rfl ?_
              refine Ev.pick (L' := [(0, .ref m), (1, .int (nI kn_)), (2, .int w), (4, .int (nI (d_ + 1))), (3, .int (ac_ + ((goF X1 t nr nb).1)))]) [2, 3, 4, 0, 1] rfl ?_
              exact ih47 (d_ + 1) (ac_ + ((goF X1 t nr nb).1)) ((goF X1 t nr nb).2) σ80 (by omega) (by omega) (by show _ = ((daysF (B 1) t nr nb d_).1 + (goF (daysF (B 1) t nr nb d_).2 t nr nb).1, (goF (daysF (B 1) t nr nb d_).2 t nr nb).2); rw [← hq_]) (Gd.go hG1 hT1) (Hd.go hT1 hG1) hP82 (ho.tr ho83)
        refine Ev.pick (L' := [(0, .ref m), (1, .int (nI kn_)), (2, .int w), (4, .int 0), (3, .int 0)]) [2, 3, 4, 0, 1] rfl ?_
        exact lp47 ((kn_ - 0) + 1) 0 0 (B 1) σ52 (Nat.lt_succ_self _) (Nat.zero_le _) rfl hG hT (by rw [upA_id]; exact hP54) ho55
      · skip
        refine e_sipush (v := -10002) (pc := 34) Xc (dT hX7_on 18 rfl) rfl ?_
        refine e_iret (pc := 37) Xc hQ (dT hX7_on 19 rfl) (Nat.le_refl _) (Nat.le_refl _) ?_
        have hz : v_on (A 1) t nr nb n w = (-10002) := by
          simp only [bI_0, bI_1, Bool.not_eq_true, Bool.not_eq_false, nI_0, nl1, nl2, nl3, nl4, nl5, nl6, nl7, nl8, nl9, nl10] at c6 c17 c31
          first | (simp [v_on, c6, c17, c31, hc_q, nI_0, nl1, nl2, nl3, nl4, nl5, nl6, nl7, nl8, nl9, nl10]; done) | (clear hK hG hT hS hPl hNo hTa hA hJ hR hD hQ Xc; simp_all [v_on, nI_0, nl1, nl2, nl3, nl4, nl5, nl6, nl7, nl8, nl9, nl10]; done)
        exact ⟨hz.symm, ⟨_, _, _, hP, rfl, rfl, rfl, rfl, rfl⟩, Off.rf⟩
    · skip
      refine e_sipush (v := -10001) (pc := 20) Xc (dT hX7_on 11 rfl) rfl ?_
      refine e_iret (pc := 23) Xc hQ (dT hX7_on 12 rfl) (Nat.le_refl _) (Nat.le_refl _) ?_
      have hz : v_on (A 1) t nr nb n w = (-10001) := by
        simp only [bI_0, bI_1, Bool.not_eq_true, Bool.not_eq_false, nI_0, nl1, nl2, nl3, nl4, nl5, nl6, nl7, nl8, nl9, nl10] at c6 c17
        first | (simp [v_on, c6, c17, nI_0, nl1, nl2, nl3, nl4, nl5, nl6, nl7, nl8, nl9, nl10]; done) | (clear hK hG hT hS hPl hNo hTa hA hJ hR hD hQ Xc; simp_all [v_on, nI_0, nl1, nl2, nl3, nl4, nl5, nl6, nl7, nl8, nl9, nl10]; done)
      exact ⟨hz.symm, ⟨_, _, _, hP, rfl, rfl, rfl, rfl, rfl⟩, Off.rf⟩
