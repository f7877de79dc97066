set_option maxRecDepth 100000 in
set_option maxHeartbeats 4000000 in
theorem c_isOver {G : xG} {σ : xS} {m : Nat} {F : Nat → Int32} {T : Nat → Nat} {A : Nat → Nat → Int32} (hP : PX7 σ m F T A) {nr nb : Nat} (hG : Gd (A 1) nr nb) {t : xT} (hT : Hd (A 1) t) (w : Int32) : CI G yX7_isOver cX7_isOver 4 (some .boolean) 4 0 0 [.ref m, .int w] σ (fun z σ1 => z = bI (overF (A 1) t nr nb w) ∧ PX7 σ1 m F T A ∧ Off m σ σ1) := by
  refine Met.ofX (by decide +kernel) (Nat.le_of_ble_eq_true rfl) (fun μ Xc hQ hnm => ?_)
  have Xc : xC G μ cX7_isOver 4 RX7 (some .boolean) 4 0 0 := Xc
  have lp4 : ∀ (n4 : Nat) (r : Nat) (b : Bool) (σ2 : xS), nr - r < n4 → (r ≤ nr) → (b = allTo (fun q => if w = 0 then decide (choF (A 1) t nr nb q = -1) else decide (mayTakeF (A 1) nr nb q = 0)) r) → (PX7 σ2 m F T A) → (Off m σ σ2) → Ev G μ 4 0 0 4 [(0, .ref m), (1, .int w), (2, .int (bI b)), (3, .int (nI r))] [] σ2 := by
    intro n4
    induction n4 with
    | zero => intro r b σ2 hn; exact absurd hn (Nat.not_lt_zero _)
    | succ n4 ih4 =>
      intro r b σ2 hn4 hr hq hp ho
      refine e_iload_n (pc := 4) Xc (dT hX7_isOver 4 rfl) 3 rfl ?_
      refine e_aload_n (pc := 5) Xc (dT hX7_isOver 5 rfl) 0 rfl ?_
      refine gf_X7_9 (pc := 6) Xc (dT hX7_isOver 6 rfl) hp.o rfl ?_
      refine e_bipush (v := 12) (pc := 9) Xc (dT hX7_isOver 7 rfl) rfl ?_
      refine e_ialdN (pc := 11) Xc (dT hX7_isOver 8 rfl) hp.a1 (by decide) rfl 12 rfl (by have := hG.1; omega) (by decide) ?_
      refine e_val (y := nI nr) hG.1.2.2.1 ?_
      refine e_icmp_geN (x := r) (y := nr) (tgt := 60) (pc := 12) Xc (dT hX7_isOver 9 rfl) rfl (by have := hG.1; omega) (by have := hG.1; omega) (fun c12 => ?_) (fun c12 => ?_)
      · skip
        refine e_iload_n (pc := 60) Xc (dT hX7_isOver 33 rfl) 2 rfl ?_
        refine e_zret (pc := 61) Xc hQ (dT hX7_isOver 34 rfl) (Nat.le_refl _) (Nat.le_refl _) (bI_or _) ?_
        have hre : r = nr := by omega
        subst hre
        exact ⟨by rw [hq]; rfl, hp, ho⟩
      · skip
        refine e_iload_n (pc := 15) Xc (dT hX7_isOver 10 rfl) 2 rfl ?_
        refine e_if_eq (tgt := 60) (pc := 16) Xc (dT hX7_isOver 11 rfl) rfl (fun c16 => ?_) (fun c16 => ?_)
        · skip
          refine e_iload_n (pc := 60) Xc (dT hX7_isOver 33 rfl) 2 rfl ?_
          refine e_zret (pc := 61) Xc hQ (dT hX7_isOver 34 rfl) (Nat.le_refl _) (Nat.le_refl _) (bI_or _) ?_
          simp only [bI_0] at c16
          refine ⟨?_, hp, ho⟩
          rw [c16] at hq ⊢
          rw [overF, allTo_false hq.symm hr]
        · skip
          refine e_iload_n (pc := 19) Xc (dT hX7_isOver 12 rfl) 1 rfl ?_
          refine e_if_ne (tgt := 40) (pc := 20) Xc (dT hX7_isOver 13 rfl) rfl (fun c20 => ?_) (fun c20 => ?_)
          · skip
            refine e_aload_n (pc := 40) Xc (dT hX7_isOver 23 rfl) 0 rfl ?_
            refine e_iload_n (pc := 41) Xc (dT hX7_isOver 24 rfl) 3 rfl ?_
            refine cl_X7_174 (pc := 42) (k := 0) (n := 0) (S := []) Xc hp.o (c_mayTake hp hG r (by omega)) (dT hX7_isOver 25 rfl) rfl (Nat.le_of_ble_eq_true rfl) (Nat.le_of_ble_eq_true rfl) (Nat.le_of_ble_eq_true rfl) rfl (Nat.le_of_ble_eq_true rfl) (fun r1 σ2 hq3 => ?_)
            obtain ⟨r1e, r1s⟩ := hq3
            have r1e := r1e.symm; subst r1e; have r1s := r1s.symm; subst r1s
            refine e_if_ne (tgt := 52) (pc := 45) Xc (dT hX7_isOver 26 rfl) rfl (fun c45 => ?_) (fun c45 => ?_)
            · skip
              refine e_iconst (v := 0) (pc := 52) Xc (dT hX7_isOver 29 rfl) rfl ?_
              refine e_istore_n (L' := [(2, .int 0), (0, .ref m), (1, .int w), (3, .int (nI r))]) (pc := 53) Xc (dT hX7_isOver 30 rfl) (by decide) rfl ?_
              refine e_iincN (a := r) (b := 1) (L' := [(3, .int (nI (r + 1))), (2, .int 0), (0, .ref m), (1, .int w)]) (pc := 54) Xc (dT hX7_isOver 31 rfl) 3 rfl rfl (by decide) rfl ?_
              refine e_goto (tgt := 4) (pc := 57) Xc (dT hX7_isOver 32 rfl) rfl ?_
              refine Ev.pick (L' := [(0, .ref m), (1, .int w), (2, .int 0), (3, .int (nI (r + 1)))]) [2, 3, 1, 0] rfl ?_
              exact ih4 (r + 1) false σ2 (by omega) (by omega) (by show false = (allTo _ r && _); rw [← hq]; simp only [bI_0, Bool.not_eq_false] at c16; rw [c16]; simp [c20, c45]) hp ho
            · skip
              refine e_iconst (v := 1) (pc := 48) Xc (dT hX7_isOver 27 rfl) rfl ?_
              refine e_goto (tgt := 53) (pc := 49) Xc (dT hX7_isOver 28 rfl) rfl ?_
              refine e_istore_n (L' := [(2, .int 1), (0, .ref m), (1, .int w), (3, .int (nI r))]) (pc := 53) Xc (dT hX7_isOver 30 rfl) (by decide) rfl ?_
              refine e_iincN (a := r) (b := 1) (L' := [(3, .int (nI (r + 1))), (2, .int 1), (0, .ref m), (1, .int w)]) (pc := 54) Xc (dT hX7_isOver 31 rfl) 3 rfl rfl (by decide) rfl ?_
              refine e_goto (tgt := 4) (pc := 57) Xc (dT hX7_isOver 32 rfl) rfl ?_
              refine Ev.pick (L' := [(0, .ref m), (1, .int w), (2, .int 1), (3, .int (nI (r + 1)))]) [2, 3, 1, 0] rfl ?_
              exact ih4 (r + 1) true σ2 (by omega) (by omega) (by show true = (allTo _ r && _); rw [← hq]; simp only [bI_0, Bool.not_eq_false] at c16; rw [c16]; simp [c20, c45]) hp ho
          · skip
            refine e_aload_n (pc := 23) Xc (dT hX7_isOver 14 rfl) 0 rfl ?_
            refine e_iload_n (pc := 24) Xc (dT hX7_isOver 15 rfl) 3 rfl ?_
            refine cl_X7_171 (pc := 25) (k := 0) (n := 0) (S := []) Xc hp.o (c_choiceOf hp hG hT r (by omega)) (dT hX7_isOver 16 rfl) rfl (Nat.le_of_ble_eq_true rfl) (Nat.le_of_ble_eq_true rfl) (Nat.le_of_ble_eq_true rfl) rfl (Nat.le_of_ble_eq_true rfl) (fun r4 σ5 hq6 => ?_)
            obtain ⟨r4e, hP7, ho8⟩ := hq6
            have r4e := r4e.symm; subst r4e
            refine e_iconst (v := -1) (pc := 28) Xc (dT hX7_isOver 17 rfl) rfl ?_
            refine e_icmp_ne (tgt := 36) (pc := 29) Xc (dT hX7_isOver 18 rfl) rfl (fun c29 => ?_) (fun c29 => ?_)
            · skip
              refine e_iconst (v := 0) (pc := 36) Xc (dT hX7_isOver 21 rfl) rfl ?_
              refine e_goto (tgt := 53) (pc := 37) Xc (dT hX7_isOver 22 rfl) rfl ?_
              refine e_istore_n (L' := [(2, .int 0), (0, .ref m), (1, .int w), (3, .int (nI r))]) (pc := 53) Xc (dT hX7_isOver 30 rfl) (by decide) rfl ?_
              refine e_iincN (a := r) (b := 1) (L' := [(3, .int (nI (r + 1))), (2, .int 0), (0, .ref m), (1, .int w)]) (pc := 54) Xc (dT hX7_isOver 31 rfl) 3 rfl rfl (by decide) rfl ?_
              refine e_goto (tgt := 4) (pc := 57) Xc (dT hX7_isOver 32 rfl) rfl ?_
              refine Ev.pick (L' := [(0, .ref m), (1, .int w), (2, .int 0), (3, .int (nI (r + 1)))]) [2, 3, 1, 0] rfl ?_
              exact ih4 (r + 1) false σ5 (by omega) (by omega) (by show false = (allTo _ r && _); rw [← hq]; simp only [bI_0, Bool.not_eq_false] at c16; rw [c16]; simp [c20, c29]) hP7 (ho.tr ho8)
            · skip
              refine e_iconst (v := 1) (pc := 32) Xc (dT hX7_isOver 19 rfl) rfl ?_
              refine e_goto (tgt := 53) (pc := 33) Xc (dT hX7_isOver 20 rfl) rfl ?_
              refine e_istore_n (L' := [(2, .int 1), (0, .ref m), (1, .int w), (3, .int (nI r))]) (pc := 53) Xc (dT hX7_isOver 30 rfl) (by decide) rfl ?_
              refine e_iincN (a := r) (b := 1) (L' := [(3, .int (nI (r + 1))), (2, .int 1), (0, .ref m), (1, .int w)]) (pc := 54) Xc (dT hX7_isOver 31 rfl) 3 rfl rfl (by decide) rfl ?_
              refine e_goto (tgt := 4) (pc := 57) Xc (dT hX7_isOver 32 rfl) rfl ?_
              refine Ev.pick (L' := [(0, .ref m), (1, .int w), (2, .int 1), (3, .int (nI (r + 1)))]) [2, 3, 1, 0] rfl ?_
              exact ih4 (r + 1) true σ5 (by omega) (by omega) (by show true = (allTo _ r && _); rw [← hq]; simp only [bI_0, Bool.not_eq_false] at c16; rw [c16]; simp [c20, c29]) hP7 (ho.tr ho8)
  show Ev G μ 4 0 0 0 [(0, .ref m), (1, .int w)] [] σ
  refine e_iconst (v := 1) (pc := 0) Xc (dT hX7_isOver 0 rfl) rfl ?_
  refine e_istore_n (L' := [(2, .int 1), (0, .ref m), (1, .int w)]) (pc := 1) Xc (dT hX7_isOver 1 rfl) (by decide) rfl ?_
  refine e_iconst (v := 0) (pc := 2) Xc (dT hX7_isOver 2 rfl) rfl ?_
  refine e_istore_n (L' := [(3, .int 0), (2, .int 1), (0, .ref m), (1, .int w)]) (pc := 3) Xc (dT hX7_isOver 3 rfl) (by decide) rfl ?_
  refine Ev.pick (L' := [(0, .ref m), (1, .int w), (2, .int 1), (3, .int 0)]) [2, 3, 1, 0] rfl ?_
  exact lp4 ((nr - 0) + 1) 0 true σ (Nat.lt_succ_self _) (Nat.zero_le _) rfl hP Off.rf
set_option maxRecDepth 100000 in
set_option maxHeartbeats 4000000 in
theorem p_pass {G : xG} {σ : xS} {m : Nat} {X Y bd : Nat → Int32} {hi rn : Int32} (hM : MK σ m X Y bd hi rn) {nr nb ns np nn nt na dy : Nat} {t : xT} (hK : OK X nr nb t ns np nn nt na dy) (n : Int32) : CI G yX7_pass cX7_pass 3 (some .int) 6 0 0 [.ref m, .int n] σ (fun z σ1 => z = (v_pass X t nr nb dy n).1 ∧ MK σ1 m (v_pass X t nr nb dy n).2 Y bd hi rn ∧ Off m σ σ1) := by
  refine Met.ofX (by decide +kernel) (Nat.le_of_ble_eq_true rfl) (fun μ Xc hQ hnm => ?_)
  have Xc : xC G μ cX7_pass 3 RX7 (some .int) 6 0 0 := Xc
  obtain ⟨F, T, A, hP, e1, e2, e3, e4, e5⟩ := hM
  subst e1 e2 e3 e4 e5
  obtain ⟨hG, hT, hS, hPl, hNo, hTa, hA, hJ, hR, hD⟩ := id hK
  have hr4 := hG.r4
  have hb7 := hG.b7
  have hs6 := hS.1
  have hp8 := hPl.1
  have hn8 := hNo.1
  have ht100 := hTa.1
  have ha5 := hA.1
  have hd9 := hD.1
  show Ev G μ 3 0 0 0 [(0, .ref m), (1, .int n)] [] σ
  refine e_iload_n (pc := 0) Xc (dT hX7_pass 0 rfl) 1 rfl ?_
  refine e_iconst (v := 0) (pc := 1) Xc (dT hX7_pass 1 rfl) rfl ?_
  refine e_bipush (v := 40) (pc := 2) Xc (dT hX7_pass 2 rfl) rfl ?_
  refine cl_X7_50 (pc := 4) (k := 0) (n := 0) (S := []) Xc (c_in n 0 40) (dT hX7_pass 3 rfl) rfl (Nat.le_of_ble_eq_true rfl) (Nat.le_of_ble_eq_true rfl) (Nat.le_of_ble_eq_true rfl) rfl (Nat.le_of_ble_eq_true rfl) (fun r1 σ2 hq3 => ?_)
  obtain ⟨r1e, r1s⟩ := hq3
  have r1e := r1e.symm; subst r1e; have r1s := r1s.symm; subst r1s
  refine e_if_ne (tgt := 13) (pc := 7) Xc (dT hX7_pass 4 rfl) rfl (fun c7 => ?_) (fun c7 => ?_)
  · skip
    obtain ⟨kn, hkn, rfl⟩ := in_N (w := n) (n := 40) (by omega) (by have hcc := c7; simp only [bI_0, bI_1, Bool.not_eq_true, Bool.not_eq_false] at hcc; exact hcc)
    have hc_kn : cl (nI kn) = kn := cl_nI (by omega)
    refine e_aload_n (pc := 13) Xc (dT hX7_pass 7 rfl) 0 rfl ?_
    refine gf_X7_9 (pc := 14) Xc (dT hX7_pass 8 rfl) hP.o rfl ?_
    refine e_iconst (v := 0) (pc := 17) Xc (dT hX7_pass 9 rfl) rfl ?_
    refine e_ialdN (pc := 18) Xc (dT hX7_pass 10 rfl) hP.a1 (by decide) rfl 0 rfl (by omega) (by decide) ?_
    refine e_val (y := nI dy) hD.2 ?_
    refine e_iload_n (pc := 19) Xc (dT hX7_pass 11 rfl) 1 rfl ?_
    refine e_iaddN (a := dy) (b := kn) (pc := 20) Xc (dT hX7_pass 12 rfl) ?_
    refine e_sipush (v := 9999) (pc := 21) Xc (dT hX7_pass 13 rfl) rfl ?_
    refine e_icmp_leN (x := dy + kn) (y := 9999) (tgt := 30) (pc := 24) Xc (dT hX7_pass 14 rfl) rfl (by omega) (by omega) (fun c24 => ?_) (fun c24 => ?_)
    · skip
      refine e_iconst (v := 0) (pc := 30) Xc (dT hX7_pass 17 rfl) rfl ?_
      refine e_istore_n (L' := [(2, .int 0), (0, .ref m), (1, .int (nI kn))]) (pc := 31) Xc (dT hX7_pass 18 rfl) (by decide) rfl ?_
      have lp32 : ∀ (n32 : Nat) (i : Nat) (X1 : Nat → Int32) (σ2 : xS), kn - i < n32 → (i ≤ kn) → (X1 = (daysF (A 1) t nr nb i).2) → (Gd X1 nr nb) → (Hd X1 t) → (PX7 σ2 m F T (upA A 1 X1)) → (Off m σ σ2) → Ev G μ 3 0 0 32 [(0, .ref m), (1, .int (nI kn)), (2, .int (nI i))] [] σ2 := by
        intro n32
        induction n32 with
        | zero => intro i X1 σ2 hn; exact absurd hn (Nat.not_lt_zero _)
        | succ n32 ih32 =>
          intro i X1 σ2 hn32 hi hq hG1 hT1 hp ho
          refine e_iload_n (pc := 32) Xc (dT hX7_pass 19 rfl) 2 rfl ?_
          refine e_iload_n (pc := 33) Xc (dT hX7_pass 20 rfl) 1 rfl ?_
          refine e_icmp_geN (x := i) (y := kn) (tgt := 48) (pc := 34) Xc (dT hX7_pass 21 rfl) rfl (by omega) (by omega) (fun c34 => ?_) (fun c34 => ?_)
          · skip
            refine e_aload_n (pc := 48) Xc (dT hX7_pass 27 rfl) 0 rfl ?_
            refine gf_X7_9 (pc := 49) Xc (dT hX7_pass 28 rfl) hp.o rfl ?_
            refine e_iconst (v := 0) (pc := 52) Xc (dT hX7_pass 29 rfl) rfl ?_
            refine e_ialdN (pc := 53) Xc (dT hX7_pass 30 rfl) hp.a1 (by decide) rfl 0 rfl (by omega) (by decide) ?_
            refine e_val (y := X1 0) rfl ?_
            refine e_iret (pc := 54) Xc hQ (dT hX7_pass 31 rfl) (Nat.le_refl _) (Nat.le_refl _) ?_
            have hie : kn = i := by omega
            subst hie
            have hz : v_pass (A 1) t nr nb dy (nI kn) = (X1 0, X1) := by
              try simp only [bI_0, bI_1, Bool.not_eq_true, Bool.not_eq_false] at c7 c24 c34
              first | (simp [v_pass, c7, c24, c34, hc_kn, hq, Nat.not_lt.mpr c24]; done) | (clear hK hG hT hS hPl hNo hTa hA hJ hR hD hQ Xc; simp_all [v_pass, hq, Nat.not_lt.mpr c24]; done)
            rw [hz]
            exact ⟨rfl, ⟨_, _, _, hp, rfl, rfl, rfl, rfl, rfl⟩, ho⟩
          · skip
            refine e_aload_n (pc := 37) Xc (dT hX7_pass 22 rfl) 0 rfl ?_
            refine cl_X7_199 (pc := 38) (k := 0) (n := 0) (S := []) Xc hp.o (c_goes hp hG1 hT1) (dT hX7_pass 23 rfl) rfl (Nat.le_of_ble_eq_true rfl) (Nat.le_of_ble_eq_true rfl) (Nat.le_of_ble_eq_true rfl) rfl (Nat.le_of_ble_eq_true rfl) (fun r4 σ5 hq6 => ?_)
            obtain ⟨r4e, hP7, ho8⟩ := hq6
            have r4e := r4e.symm; subst r4e
            have hP7 : PX7 σ5 m F T (upA A 1 ((goF X1 t nr nb).2)) := by rw [upA_2] at hP7; exact hP7
            refine e_val (y := (goF X1 t nr nb).1) rfl ?_
            refine e_pop (pc := 41) Xc (dT hX7_pass 24 rfl) rfl ?_
            refine e_iincN (a := i) (b := 1) (L' := [(2, .int (nI (i + 1))), (0, .ref m), (1, .int (nI kn))]) (pc := 42) Xc (dT hX7_pass 25 rfl) 2 rfl rfl (by decide) rfl ?_
            refine e_goto (tgt := 32) (pc := 45) Xc (dT hX7_pass 26 rfl) rfl ?_
            refine Ev.pick (L' := [(0, .ref m), (1, .int (nI kn)), (2, .int (nI (i + 1)))]) [1, 2, 0] rfl ?_
            exact ih32 (i + 1) ((goF X1 t nr nb).2) σ5 (by omega) (by omega) (by rw [hq]; rfl) (Gd.go hG1 hT1) (Hd.go hT1 hG1) hP7 (ho.tr ho8)
      refine Ev.pick (L' := [(0, .ref m), (1, .int (nI kn)), (2, .int 0)]) [1, 2, 0] rfl ?_
      exact lp32 ((kn - 0) + 1) 0 (A 1) σ (Nat.lt_succ_self _) (Nat.zero_le _) rfl hG hT (by rw [upA_id]; exact hP) Off.rf
    · skip
      refine e_bipush (v := -3) (pc := 27) Xc (dT hX7_pass 15 rfl) rfl ?_
      refine e_iret (pc := 29) Xc hQ (dT hX7_pass 16 rfl) (Nat.le_refl _) (Nat.le_refl _) ?_
      have hz : v_pass (A 1) t nr nb dy (nI kn) = ((-3), A 1) := by
        try simp only [bI_0, bI_1, Bool.not_eq_true, Bool.not_eq_false] at c7 c24
        first | (simp [v_pass, c7, c24, hc_kn]; done) | (clear hK hG hT hS hPl hNo hTa hA hJ hR hD hQ Xc; simp_all [v_pass]; done)
      rw [hz]
      exact ⟨rfl, ⟨_, _, _, hP, rfl, rfl, rfl, rfl, rfl⟩, Off.rf⟩
  · skip
    refine e_bipush (v := -2) (pc := 10) Xc (dT hX7_pass 5 rfl) rfl ?_
    refine e_iret (pc := 12) Xc hQ (dT hX7_pass 6 rfl) (Nat.le_refl _) (Nat.le_refl _) ?_
    have hz : v_pass (A 1) t nr nb dy n = ((-2), A 1) := by
      try simp only [bI_0, bI_1, Bool.not_eq_true, Bool.not_eq_false] at c7
      first | (simp [v_pass, c7]; done) | (clear hK hG hT hS hPl hNo hTa hA hJ hR hD hQ Xc; simp_all [v_pass]; done)
    rw [hz]
    exact ⟨rfl, ⟨_, _, _, hP, rfl, rfl, rfl, rfl, rfl⟩, Off.rf⟩
set_option maxRecDepth 100000 in
set_option maxHeartbeats 4000000 in
theorem p_on {G : xG} {σ : xS} {m : Nat} {X Y bd : Nat → Int32} {hi rn : Int32} (hM : MK σ m X Y bd hi rn) {nr nb ns np nn nt na dy : Nat} {t : xT} (hK : OK X nr nb t ns np nn nt na dy) (n : Int32) (w : Int32) : CI G yX7_on cX7_on 5 (some .int) 7 0 0 [.ref m, .int n, .int w] σ (fun z σ1 => z = v_on X t nr nb n w ∧ MK σ1 m X Y bd hi rn ∧ Off m σ σ1) := by
  refine Met.ofX (by decide +kernel) (Nat.le_of_ble_eq_true rfl) (fun μ Xc hQ hnm => ?_)
  have Xc : xC G μ cX7_on 5 RX7 (some .int) 7 0 0 := Xc
  obtain ⟨F, T, A, hP, e1, e2, e3, e4, e5⟩ := hM
  subst e1 e2 e3 e4 e5
  obtain ⟨hG, hT, hS, hPl, hNo, hTa, hA, hJ, hR, hD⟩ := id hK
  have hr4 := hG.r4
  have hb7 := hG.b7
  have hs6 := hS.1
  have hp8 := hPl.1
  have hn8 := hNo.1
  have ht100 := hTa.1
  have ha5 := hA.1
  have hd9 := hD.1
  show Ev G μ 5 0 0 0 [(0, .ref m), (1, .int n), (2, .int w)] [] σ
  refine e_iload_n (pc := 0) Xc (dT hX7_on 0 rfl) 2 rfl ?_
  refine e_iconst (v := 0) (pc := 1) Xc (dT hX7_on 1 rfl) rfl ?_
  refine e_iconst (v := 1) (pc := 2) Xc (dT hX7_on 2 rfl) rfl ?_
  refine cl_X7_50 (pc := 3) (k := 0) (n := 0) (S := []) Xc (c_in w 0 1) (dT hX7_on 3 rfl) rfl (Nat.le_of_ble_eq_true rfl) (Nat.le_of_ble_eq_true rfl) (Nat.le_of_ble_eq_true rfl) rfl (Nat.le_of_ble_eq_true rfl) (fun r1 σ2 hq3 => ?_)
  obtain ⟨r1e, r1s⟩ := hq3
  have r1e := r1e.symm; subst r1e; have r1s := r1s.symm; subst r1s
  refine e_if_ne (tgt := 24) (pc := 6) Xc (dT hX7_on 4 rfl) rfl (fun c6 => ?_) (fun c6 => ?_)
  · skip
    obtain ⟨wk_, hwk_, rfl⟩ := in_N (w := w) (n := 1) (by omega) (by have hcc := c6; simp only [bI_0, bI_1, Bool.not_eq_true, Bool.not_eq_false] at hcc; exact hcc)
    have hc_wk_ : cl (nI wk_) = wk_ := cl_nI (by omega)
    rcases (show wk_ = 0 ∨ wk_ = 1 by omega) with rfl | rfl
    · skip
      refine e_iload_n (pc := 24) Xc (dT hX7_on 13 rfl) 1 rfl ?_
      refine e_iconst (v := 0) (pc := 25) Xc (dT hX7_on 14 rfl) rfl ?_
      refine e_bipush (v := 40) (pc := 26) Xc (dT hX7_on 15 rfl) rfl ?_
      refine cl_X7_50 (pc := 28) (k := 0) (n := 0) (S := []) Xc (c_in n 0 40) (dT hX7_on 16 rfl) rfl (Nat.le_of_ble_eq_true rfl) (Nat.le_of_ble_eq_true rfl) (Nat.le_of_ble_eq_true rfl) rfl (Nat.le_of_ble_eq_true rfl) (fun r4 σ5 hq6 => ?_)
      obtain ⟨r4e, r4s⟩ := hq6
      have r4e := r4e.symm; subst r4e; have r4s := r4s.symm; subst r4s
      refine e_if_ne (tgt := 38) (pc := 31) Xc (dT hX7_on 17 rfl) rfl (fun c31 => ?_) (fun c31 => ?_)
      · skip
        obtain ⟨kn_, hkn_, rfl⟩ := in_N (w := n) (n := 40) (by omega) (by have hcc := c31; simp only [bI_0, bI_1, Bool.not_eq_true, Bool.not_eq_false] at hcc; exact hcc)
        have hc_kn_ : cl (nI kn_) = kn_ := cl_nI (by omega)
        refine e_aload_n (pc := 38) Xc (dT hX7_on 20 rfl) 0 rfl ?_
        refine cl_X7_202 (pc := 39) (k := 0) (n := 0) (S := []) Xc hP.o (c_keeps hP) (dT hX7_on 21 rfl) rfl (Nat.le_of_ble_eq_true rfl) (Nat.le_of_ble_eq_true rfl) (Nat.le_of_ble_eq_true rfl) rfl (Nat.le_of_ble_eq_true rfl) (fun σ8 hq9 => ?_)
        obtain ⟨fr, hP10, hf0, ho11⟩ := hq9
        obtain ⟨B, hP10, b1, b2, b11, hf⟩ : ∃ B, PX7 σ8 m F T B ∧ A 1 = B 1 ∧ A 2 = B 2 ∧ A 11 = B 11 ∧ ∀ j, j < 12 → B 3 j = B 1 j := ⟨_, hP10, rfl, rfl, rfl, hf0⟩
        rw [b1] at hK
        rw [b1, b2, b11] at hQ
        try simp only [b1] at *
        obtain ⟨hG, hT, hS, hPl, hNo, hTa, hA, hJ, hR, hD⟩ := id hK
        refine e_iconst (v := 0) (pc := 42) Xc (dT hX7_on 22 rfl) rfl ?_
        refine e_istore_n (L' := [(3, .int 0), (0, .ref m), (1, .int (nI kn_)), (2, .int 0)]) (pc := 43) Xc (dT hX7_on 23 rfl) (by decide) rfl ?_
        refine e_iconst (v := 0) (pc := 44) Xc (dT hX7_on 24 rfl) rfl ?_
        refine e_istore (L' := [(4, .int 0), (3, .int 0), (0, .ref m), (1, .int (nI kn_)), (2, .int 0)]) (pc := 45) Xc (dT hX7_on 25 rfl) (by decide) rfl ?_
        have lp47 : ∀ (n47 : Nat) (d_ : Nat) (ac_ : Int32) (X1 : Nat → Int32) (σ2 : xS), kn_ - d_ < n47 → (d_ ≤ kn_) → ((ac_, X1) = daysF (B 1) t nr nb d_) → (Gd X1 nr nb) → (Hd X1 t) → (PX7 σ2 m F T (upA B 1 X1)) → (Off m σ σ2) → Ev G μ 5 0 0 47 [(0, .ref m), (1, .int (nI kn_)), (2, .int 0), (4, .int (nI d_)), (3, .int ac_)] [] σ2 := by
          intro n47
          induction n47 with
          | zero => intro d_ ac_ X1 σ2 hn; exact absurd hn (Nat.not_lt_zero _)
          | succ n47 ih47 =>
            intro d_ ac_ X1 σ2 hn47 hd_ hq_ hG1 hT1 hp ho
            refine e_iload (pc := 47) Xc (dT hX7_on 26 rfl) 3 rfl ?_
            refine e_iload_n (pc := 49) Xc (dT hX7_on 27 rfl) 1 rfl ?_
            refine e_icmp_geN (x := d_) (y := kn_) (tgt := 66) (pc := 50) Xc (dT hX7_on 28 rfl) rfl (by omega) (by omega) (fun c50 => ?_) (fun c50 => ?_)
            · skip
              have hde_ : kn_ = d_ := by omega
              subst hde_
              have hq1_ : (daysF (B 1) t nr nb kn_).1 = ac_ := (congrArg Prod.fst hq_).symm
              have hq2_ : (daysF (B 1) t nr nb kn_).2 = X1 := (congrArg Prod.snd hq_).symm
              refine e_iload_n (pc := 66) Xc (dT hX7_on 36 rfl) 2 rfl ?_
              refine e_if_ne (tgt := 74) (pc := 67) Xc (dT hX7_on 37 rfl) rfl (fun c67 => ?_) (fun c67 => ?_)
              · skip
                exact absurd c67 (by decide)
              · skip
                refine e_iload_n (pc := 70) Xc (dT hX7_on 38 rfl) 4 rfl ?_
                refine e_goto (tgt := 101) (pc := 71) Xc (dT hX7_on 39 rfl) rfl ?_
                refine e_istore (L' := [(4, .int ac_), (0, .ref m), (1, .int (nI kn_)), (2, .int 0), (3, .int ac_)]) (pc := 101) Xc (dT hX7_on 56 rfl) (by decide) rfl ?_
                refine e_aload_n (pc := 103) Xc (dT hX7_on 57 rfl) 1 rfl ?_
                refine cl_X7_205 (pc := 104) (k := 0) (n := 0) (S := []) Xc hp.o (c_goesBack hp) (dT hX7_on 58 rfl) rfl (Nat.le_of_ble_eq_true rfl) (Nat.le_of_ble_eq_true rfl) (Nat.le_of_ble_eq_true rfl) rfl (Nat.le_of_ble_eq_true rfl) (fun σ13 hq14 => ?_)
                obtain ⟨hP15, ho16⟩ := hq14
                have hP15 : PX7 σ13 m F T (upA B 1 (backF X1 (B 3))) := by rw [upA_2] at hP15; exact hP15
                refine e_iload (pc := 107) Xc (dT hX7_on 59 rfl) 0 rfl ?_
                refine e_iret (pc := 109) Xc hQ (dT hX7_on 60 rfl) (Nat.le_refl _) (Nat.le_refl _) ?_
                have hz : v_on (B 1) t nr nb (nI kn_) (nI 0) = ac_ := by
                  try simp only [bI_0, bI_1, Bool.not_eq_true, Bool.not_eq_false, nI_0, nl1, nl2, nl3, nl4, nl5, nl6, nl7, nl8, nl9, nl10] at c6 c31 c50 c67
                  first | (simp [v_on, c6, c31, c50, c67, hc_wk_, hc_kn_, hq1_, hq2_, nI_0, nl1, nl2, nl3, nl4, nl5, nl6, nl7, nl8, nl9, nl10]; done) | (clear hK hG hT hS hPl hNo hTa hA hJ hR hD hQ Xc; simp_all [v_on, nI_0, nl1, nl2, nl3, nl4, nl5, nl6, nl7, nl8, nl9, nl10]; done)
                exact ⟨hz.symm, ⟨_, _, _, hP15, (back_hi hf (fun j hj => by rw [← hq2_]; exact days_hi hr4 (by omega) _)), rfl, rfl, rfl, rfl⟩, (ho.tr ho16)⟩
            · skip
              refine e_iload_n (pc := 53) Xc (dT hX7_on 29 rfl) 4 rfl ?_
              refine e_aload_n (pc := 54) Xc (dT hX7_on 30 rfl) 0 rfl ?_
              refine cl_X7_199 (pc := 55) (k := 0) (n := 0) (S := [.int ac_]) Xc hp.o (c_goes hp hG1 hT1) (dT hX7_on 31 rfl) rfl (Nat.le_of_ble_eq_true rfl) (Nat.le_of_ble_eq_true rfl) (Nat.le_of_ble_eq_true rfl) rfl (Nat.le_of_ble_eq_true rfl) (fun r17 σ18 hq19 => ?_)
              obtain ⟨r17e, hP20, ho21⟩ := hq19
              have r17e := r17e.symm; subst r17e
              have hP20 : PX7 σ18 m F T (upA B 1 ((goF X1 t nr nb).2)) := by rw [upA_2] at hP20; exact hP20
              refine e_val (y := (goF X1 t nr nb).1) rfl ?_
              refine e_iadd (pc := 58) Xc (dT hX7_on 32 rfl) ?_
              refine e_istore_n (L' := [(3, .int (ac_ + ((goF X1 t nr nb).1))), (0, .ref m), (1, .int (nI kn_)), (2, .int 0), (4, .int (nI d_))]) (pc := 59) Xc (dT hX7_on 33 rfl) (by decide) rfl ?_
              refine e_iincN (a := d_) (b := 1) (L' := [(4, .int (nI (d_ + 1))), (3, .int (ac_ + ((goF X1 t nr nb).1))), (0, .ref m), (1, .int (nI kn_)), (2, .int 0)]) (pc := 60) Xc (dT hX7_on 34 rfl) 4 rfl rfl (by decide) rfl ?_
              refine e_goto (tgt := 47) (pc := 63) Xc (dT hX7_on 35 rfl) rfl ?_
              refine Ev.pick (L' := [(0, .ref m), (1, .int (nI kn_)), (2, .int 0), (4, .int (nI (d_ + 1))), (3, .int (ac_ + ((goF X1 t nr nb).1)))]) [2, 3, 4, 0, 1] rfl ?_
              exact ih47 (d_ + 1) (ac_ + ((goF X1 t nr nb).1)) ((goF X1 t nr nb).2) σ18 (by omega) (by omega) (by show _ = ((daysF (B 1) t nr nb d_).1 + (goF (daysF (B 1) t nr nb d_).2 t nr nb).1, (goF (daysF (B 1) t nr nb d_).2 t nr nb).2); rw [← hq_]) (Gd.go hG1 hT1) (Hd.go hT1 hG1) hP20 (ho.tr ho21)
        refine Ev.pick (L' := [(0, .ref m), (1, .int (nI kn_)), (2, .int 0), (4, .int 0), (3, .int 0)]) [2, 3, 4, 0, 1] rfl ?_
        exact lp47 ((kn_ - 0) + 1) 0 0 (B 1) σ8 (Nat.lt_succ_self _) (Nat.zero_le _) rfl hG hT (by rw [upA_id]; exact hP10) ho11
      · skip
        refine e_sipush (v := -10002) (pc := 34) Xc (dT hX7_on 18 rfl) rfl ?_
        refine e_iret (pc := 37) Xc hQ (dT hX7_on 19 rfl) (Nat.le_refl _) (Nat.le_refl _) ?_
        have hz : v_on (A 1) t nr nb n (nI 0) = (-10002) := by
          try simp only [bI_0, bI_1, Bool.not_eq_true, Bool.not_eq_false, nI_0, nl1, nl2, nl3, nl4, nl5, nl6, nl7, nl8, nl9, nl10] at c6 c31
          first | (simp [v_on, c6, c31, hc_wk_, nI_0, nl1, nl2, nl3, nl4, nl5, nl6, nl7, nl8, nl9, nl10]; done) | (clear hK hG hT hS hPl hNo hTa hA hJ hR hD hQ Xc; simp_all [v_on, nI_0, nl1, nl2, nl3, nl4, nl5, nl6, nl7, nl8, nl9, nl10]; done)
        exact ⟨hz.symm, ⟨_, _, _, hP, rfl, rfl, rfl, rfl, rfl⟩, Off.rf⟩
    · skip
      refine e_iload_n (pc := 24) Xc (dT hX7_on 13 rfl) 1 rfl ?_
      refine e_iconst (v := 0) (pc := 25) Xc (dT hX7_on 14 rfl) rfl ?_
      refine e_bipush (v := 40) (pc := 26) Xc (dT hX7_on 15 rfl) rfl ?_
      refine cl_X7_50 (pc := 28) (k := 0) (n := 0) (S := []) Xc (c_in n 0 40) (dT hX7_on 16 rfl) rfl (Nat.le_of_ble_eq_true rfl) (Nat.le_of_ble_eq_true rfl) (Nat.le_of_ble_eq_true rfl) rfl (Nat.le_of_ble_eq_true rfl) (fun r22 σ23 hq24 => ?_)
      obtain ⟨r22e, r22s⟩ := hq24
      have r22e := r22e.symm; subst r22e; have r22s := r22s.symm; subst r22s
      refine e_if_ne (tgt := 38) (pc := 31) Xc (dT hX7_on 17 rfl) rfl (fun c31 => ?_) (fun c31 => ?_)
      · skip
        obtain ⟨kn_, hkn_, rfl⟩ := in_N (w := n) (n := 40) (by omega) (by have hcc := c31; simp only [bI_0, bI_1, Bool.not_eq_true, Bool.not_eq_false] at hcc; exact hcc)
        have hc_kn_ : cl (nI kn_) = kn_ := cl_nI (by omega)
        refine e_aload_n (pc := 38) Xc (dT hX7_on 20 rfl) 0 rfl ?_
        refine cl_X7_202 (pc := 39) (k := 0) (n := 0) (S := []) Xc hP.o (c_keeps hP) (dT hX7_on 21 rfl) rfl (Nat.le_of_ble_eq_true rfl) (Nat.le_of_ble_eq_true rfl) (Nat.le_of_ble_eq_true rfl) rfl (Nat.le_of_ble_eq_true rfl) (fun σ26 hq27 => ?_)
        obtain ⟨fr, hP28, hf0, ho29⟩ := hq27
        obtain ⟨B, hP28, b1, b2, b11, hf⟩ : ∃ B, PX7 σ26 m F T B ∧ A 1 = B 1 ∧ A 2 = B 2 ∧ A 11 = B 11 ∧ ∀ j, j < 12 → B 3 j = B 1 j := ⟨_, hP28, rfl, rfl, rfl, hf0⟩
        rw [b1] at hK
        rw [b1, b2, b11] at hQ
        try simp only [b1] at *
        obtain ⟨hG, hT, hS, hPl, hNo, hTa, hA, hJ, hR, hD⟩ := id hK
        refine e_iconst (v := 0) (pc := 42) Xc (dT hX7_on 22 rfl) rfl ?_
        refine e_istore_n (L' := [(3, .int 0), (0, .ref m), (1, .int (nI kn_)), (2, .int 1)]) (pc := 43) Xc (dT hX7_on 23 rfl) (by decide) rfl ?_
        refine e_iconst (v := 0) (pc := 44) Xc (dT hX7_on 24 rfl) rfl ?_
        refine e_istore (L' := [(4, .int 0), (3, .int 0), (0, .ref m), (1, .int (nI kn_)), (2, .int 1)]) (pc := 45) Xc (dT hX7_on 25 rfl) (by decide) rfl ?_
        have lp47 : ∀ (n47 : Nat) (d_ : Nat) (ac_ : Int32) (X1 : Nat → Int32) (σ2 : xS), kn_ - d_ < n47 → (d_ ≤ kn_) → ((ac_, X1) = daysF (B 1) t nr nb d_) → (Gd X1 nr nb) → (Hd X1 t) → (PX7 σ2 m F T (upA B 1 X1)) → (Off m σ σ2) → Ev G μ 5 0 0 47 [(0, .ref m), (1, .int (nI kn_)), (2, .int 1), (4, .int (nI d_)), (3, .int ac_)] [] σ2 := by
          intro n47
          induction n47 with
          | zero => intro d_ ac_ X1 σ2 hn; exact absurd hn (Nat.not_lt_zero _)
          | succ n47 ih47 =>
            intro d_ ac_ X1 σ2 hn47 hd_ hq_ hG1 hT1 hp ho
            refine e_iload (pc := 47) Xc (dT hX7_on 26 rfl) 3 rfl ?_
            refine e_iload_n (pc := 49) Xc (dT hX7_on 27 rfl) 1 rfl ?_
            refine e_icmp_geN (x := d_) (y := kn_) (tgt := 66) (pc := 50) Xc (dT hX7_on 28 rfl) rfl (by omega) (by omega) (fun c50 => ?_) (fun c50 => ?_)
            · skip
              have hde_ : kn_ = d_ := by omega
              subst hde_
              have hq1_ : (daysF (B 1) t nr nb kn_).1 = ac_ := (congrArg Prod.fst hq_).symm
              have hq2_ : (daysF (B 1) t nr nb kn_).2 = X1 := (congrArg Prod.snd hq_).symm
              refine e_iload_n (pc := 66) Xc (dT hX7_on 36 rfl) 2 rfl ?_
              refine e_if_ne (tgt := 74) (pc := 67) Xc (dT hX7_on 37 rfl) rfl (fun c67 => ?_) (fun c67 => ?_)
              · skip
                refine e_iload_n (pc := 74) Xc (dT hX7_on 40 rfl) 2 rfl ?_
                refine e_iconst (v := 1) (pc := 75) Xc (dT hX7_on 41 rfl) rfl ?_
                refine e_icmp_neN (x := 1) (y := 1) (tgt := 86) (pc := 76) Xc (dT hX7_on 42 rfl) rfl (by omega) (by omega) (fun c76 => ?_) (fun c76 => ?_)
                · skip
                  exact absurd c76 (by decide)
                · skip
                  refine e_aload_n (pc := 79) Xc (dT hX7_on 43 rfl) 0 rfl ?_
                  refine cl_X7_183 (pc := 80) (k := 0) (n := 0) (S := []) Xc hp.o (c_totalNow hp hG1 hT1) (dT hX7_on 44 rfl) rfl (Nat.le_of_ble_eq_true rfl) (Nat.le_of_ble_eq_true rfl) (Nat.le_of_ble_eq_true rfl) rfl (Nat.le_of_ble_eq_true rfl) (fun r30 σ31 hq32 => ?_)
                  obtain ⟨r30e, hP33, ho34⟩ := hq32
                  have r30e := r30e.symm; subst r30e
                  refine e_val (y := totF X1 t nr) rfl ?_
                  refine e_goto (tgt := 101) (pc := 83) Xc (dT hX7_on 45 rfl) rfl ?_
                  refine e_istore (L' := [(4, .int (totF X1 t nr)), (0, .ref m), (1, .int (nI kn_)), (2, .int 1), (3, .int ac_)]) (pc := 101) Xc (dT hX7_on 56 rfl) (by decide) rfl ?_
                  refine e_aload_n (pc := 103) Xc (dT hX7_on 57 rfl) 1 rfl ?_
                  refine cl_X7_205 (pc := 104) (k := 0) (n := 0) (S := []) Xc hP33.o (c_goesBack hP33) (dT hX7_on 58 rfl) rfl (Nat.le_of_ble_eq_true rfl) (Nat.le_of_ble_eq_true rfl) (Nat.le_of_ble_eq_true rfl) rfl (Nat.le_of_ble_eq_true rfl) (fun σ36 hq37 => ?_)
                  obtain ⟨hP38, ho39⟩ := hq37
                  have hP38 : PX7 σ36 m F T (upA B 1 (backF X1 (B 3))) := by rw [upA_2] at hP38; exact hP38
                  refine e_iload (pc := 107) Xc (dT hX7_on 59 rfl) 0 rfl ?_
                  refine e_iret (pc := 109) Xc hQ (dT hX7_on 60 rfl) (Nat.le_refl _) (Nat.le_refl _) ?_
                  have hz : v_on (B 1) t nr nb (nI kn_) (nI 1) = totF X1 t nr := by
                    try simp only [bI_0, bI_1, Bool.not_eq_true, Bool.not_eq_false, nI_0, nl1, nl2, nl3, nl4, nl5, nl6, nl7, nl8, nl9, nl10] at c6 c31 c50 c67 c76
                    first | (simp [v_on, c6, c31, c50, c67, c76, hc_wk_, hc_kn_, hq1_, hq2_, nI_0, nl1, nl2, nl3, nl4, nl5, nl6, nl7, nl8, nl9, nl10]; done) | (clear hK hG hT hS hPl hNo hTa hA hJ hR hD hQ Xc; simp_all [v_on, nI_0, nl1, nl2, nl3, nl4, nl5, nl6, nl7, nl8, nl9, nl10]; done)
                  exact ⟨hz.symm, ⟨_, _, _, hP38, (back_hi hf (fun j hj => by rw [← hq2_]; exact days_hi hr4 (by omega) _)), rfl, rfl, rfl, rfl⟩, ((ho.tr ho34).tr ho39)⟩
              · skip
                exact absurd c67 (by decide)
            · skip
              refine e_iload_n (pc := 53) Xc (dT hX7_on 29 rfl) 4 rfl ?_
              refine e_aload_n (pc := 54) Xc (dT hX7_on 30 rfl) 0 rfl ?_
              refine cl_X7_199 (pc := 55) (k := 0) (n := 0) (S := [.int ac_]) Xc hp.o (c_goes hp hG1 hT1) (dT hX7_on 31 rfl) rfl (Nat.le_of_ble_eq_true rfl) (Nat.le_of_ble_eq_true rfl) (Nat.le_of_ble_eq_true rfl) rfl (Nat.le_of_ble_eq_true rfl) (fun r40 σ41 hq42 => ?_)
              obtain ⟨r40e, hP43, ho44⟩ := hq42
              have r40e := r40e.symm; subst r40e
              have hP43 : PX7 σ41 m F T (upA B 1 ((goF X1 t nr nb).2)) := by rw [upA_2] at hP43; exact hP43
              refine e_val (y := (goF X1 t nr nb).1) rfl ?_
              refine e_iadd (pc := 58) Xc (dT hX7_on 32 rfl) ?_
              refine e_istore_n (L' := [(3, .int (ac_ + ((goF X1 t nr nb).1))), (0, .ref m), (1, .int (nI kn_)), (2, .int 1), (4, .int (nI d_))]) (pc := 59) Xc (dT hX7_on 33 rfl) (by decide) rfl ?_
              refine e_iincN (a := d_) (b := 1) (L' := [(4, .int (nI (d_ + 1))), (3, .int (ac_ + ((goF X1 t nr nb).1))), (0, .ref m), (1, .int (nI kn_)), (2, .int 1)]) (pc := 60) Xc (dT hX7_on 34 rfl) 4 rfl rfl (by decide) rfl ?_
              refine e_goto (tgt := 47) (pc := 63) Xc (dT hX7_on 35 rfl) rfl ?_
              refine Ev.pick (L' := [(0, .ref m), (1, .int (nI kn_)), (2, .int 1), (4, .int (nI (d_ + 1))), (3, .int (ac_ + ((goF X1 t nr nb).1)))]) [2, 3, 4, 0, 1] rfl ?_
              exact ih47 (d_ + 1) (ac_ + ((goF X1 t nr nb).1)) ((goF X1 t nr nb).2) σ41 (by omega) (by omega) (by show _ = ((daysF (B 1) t nr nb d_).1 + (goF (daysF (B 1) t nr nb d_).2 t nr nb).1, (goF (daysF (B 1) t nr nb d_).2 t nr nb).2); rw [← hq_]) (Gd.go hG1 hT1) (Hd.go hT1 hG1) hP43 (ho.tr ho44)
        refine Ev.pick (L' := [(0, .ref m), (1, .int (nI kn_)), (2, .int 1), (4, .int 0), (3, .int 0)]) [2, 3, 4, 0, 1] rfl ?_
        exact lp47 ((kn_ - 0) + 1) 0 0 (B 1) σ26 (Nat.lt_succ_self _) (Nat.zero_le _) rfl hG hT (by rw [upA_id]; exact hP28) ho29
      · skip
        refine e_sipush (v := -10002) (pc := 34) Xc (dT hX7_on 18 rfl) rfl ?_
        refine e_iret (pc := 37) Xc hQ (dT hX7_on 19 rfl) (Nat.le_refl _) (Nat.le_refl _) ?_
        have hz : v_on (A 1) t nr nb n (nI 1) = (-10002) := by
          try simp only [bI_0, bI_1, Bool.not_eq_true, Bool.not_eq_false, nI_0, nl1, nl2, nl3, nl4, nl5, nl6, nl7, nl8, nl9, nl10] at c6 c31
          first | (simp [v_on, c6, c31, hc_wk_, nI_0, nl1, nl2, nl3, nl4, nl5, nl6, nl7, nl8, nl9, nl10]; done) | (clear hK hG hT hS hPl hNo hTa hA hJ hR hD hQ Xc; simp_all [v_on, nI_0, nl1, nl2, nl3, nl4, nl5, nl6, nl7, nl8, nl9, nl10]; done)
        exact ⟨hz.symm, ⟨_, _, _, hP, rfl, rfl, rfl, rfl, rfl⟩, Off.rf⟩
  · skip
    refine e_aload_n (pc := 9) Xc (dT hX7_on 5 rfl) 0 rfl ?_
    refine e_iload_n (pc := 10) Xc (dT hX7_on 6 rfl) 2 rfl ?_
    refine e_bipush (v := 10) (pc := 11) Xc (dT hX7_on 7 rfl) rfl ?_
    refine e_isub (pc := 13) Xc (dT hX7_on 8 rfl) ?_
    refine cl_X7_165 (pc := 14) (k := 0) (n := 0) (S := []) Xc hP.o (c_isReader hP hG (w - 10)) (dT hX7_on 9 rfl) rfl (Nat.le_of_ble_eq_true rfl) (Nat.le_of_ble_eq_true rfl) (Nat.le_of_ble_eq_true rfl) rfl (Nat.le_of_ble_eq_true rfl) (fun r45 σ46 hq47 => ?_)
    obtain ⟨r45e, r45s⟩ := hq47
    have r45e := r45e.symm; subst r45e; have r45s := r45s.symm; subst r45s
    refine e_if_ne (tgt := 24) (pc := 17) Xc (dT hX7_on 10 rfl) rfl (fun c17 => ?_) (fun c17 => ?_)
    · skip
      obtain ⟨q_, hq_r, hqe_⟩ := inF_nat (v := w - 10) (n := nr) (by omega) (by simpa [bI_0] using c17)
      have hc_q : cl (w - 10) = q_ := by rw [hqe_]; exact cl_nI (by omega)
      refine e_iload_n (pc := 24) Xc (dT hX7_on 13 rfl) 1 rfl ?_
      refine e_iconst (v := 0) (pc := 25) Xc (dT hX7_on 14 rfl) rfl ?_
      refine e_bipush (v := 40) (pc := 26) Xc (dT hX7_on 15 rfl) rfl ?_
      refine cl_X7_50 (pc := 28) (k := 0) (n := 0) (S := []) Xc (c_in n 0 40) (dT hX7_on 16 rfl) rfl (Nat.le_of_ble_eq_true rfl) (Nat.le_of_ble_eq_true rfl) (Nat.le_of_ble_eq_true rfl) rfl (Nat.le_of_ble_eq_true rfl) (fun r48 σ49 hq50 => ?_)
      obtain ⟨r48e, r48s⟩ := hq50
      have r48e := r48e.symm; subst r48e; have r48s := r48s.symm; subst r48s
      refine e_if_ne (tgt := 38) (pc := 31) Xc (dT hX7_on 17 rfl) rfl (fun c31 => ?_) (fun c31 => ?_)
      · skip
        obtain ⟨kn_, hkn_, rfl⟩ := in_N (w := n) (n := 40) (by omega) (by have hcc := c31; simp only [bI_0, bI_1, Bool.not_eq_true, Bool.not_eq_false] at hcc; exact hcc)
        have hc_kn_ : cl (nI kn_) = kn_ := cl_nI (by omega)
        refine e_aload_n (pc := 38) Xc (dT hX7_on 20 rfl) 0 rfl ?_
        refine cl_X7_202 (pc := 39) (k := 0) (n := 0) (S := []) Xc hP.o (c_keeps hP) (dT hX7_on 21 rfl) rfl (Nat.le_of_ble_eq_true rfl) (Nat.le_of_ble_eq_true rfl) (Nat.le_of_ble_eq_true rfl) rfl (Nat.le_of_ble_eq_true rfl) (fun σ52 hq53 => ?_)
        obtain ⟨fr, hP54, hf0, ho55⟩ := hq53
        obtain ⟨B, hP54, b1, b2, b11, hf⟩ : ∃ B, PX7 σ52 m F T B ∧ A 1 = B 1 ∧ A 2 = B 2 ∧ A 11 = B 11 ∧ ∀ j, j < 12 → B 3 j = B 1 j := ⟨_, hP54, rfl, rfl, rfl, hf0⟩
        rw [b1] at hK
        rw [b1, b2, b11] at hQ
        try simp only [b1] at *
        obtain ⟨hG, hT, hS, hPl, hNo, hTa, hA, hJ, hR, hD⟩ := id hK
        refine e_iconst (v := 0) (pc := 42) Xc (dT hX7_on 22 rfl) rfl ?_
        refine e_istore_n (L' := [(3, .int 0), (0, .ref m), (1, .int (nI kn_)), (2, .int w)]) (pc := 43) Xc (dT hX7_on 23 rfl) (by decide) rfl ?_
        refine e_iconst (v := 0) (pc := 44) Xc (dT hX7_on 24 rfl) rfl ?_
        refine e_istore (L' := [(4, .int 0), (3, .int 0), (0, .ref m), (1, .int (nI kn_)), (2, .int w)]) (pc := 45) Xc (dT hX7_on 25 rfl) (by decide) rfl ?_
        have lp47 : ∀ (n47 : Nat) (d_ : Nat) (ac_ : Int32) (X1 : Nat → Int32) (σ2 : xS), kn_ - d_ < n47 → (d_ ≤ kn_) → ((ac_, X1) = daysF (B 1) t nr nb d_) → (Gd X1 nr nb) → (Hd X1 t) → (PX7 σ2 m F T (upA B 1 X1)) → (Off m σ σ2) → Ev G μ 5 0 0 47 [(0, .ref m), (1, .int (nI kn_)), (2, .int w), (4, .int (nI d_)), (3, .int ac_)] [] σ2 := by
          intro n47
          induction n47 with
          | zero => intro d_ ac_ X1 σ2 hn; exact absurd hn (Nat.not_lt_zero _)
          | succ n47 ih47 =>
            intro d_ ac_ X1 σ2 hn47 hd_ hq_ hG1 hT1 hp ho
            refine e_iload (pc := 47) Xc (dT hX7_on 26 rfl) 3 rfl ?_
            refine e_iload_n (pc := 49) Xc (dT hX7_on 27 rfl) 1 rfl ?_
            refine e_icmp_geN (x := d_) (y := kn_) (tgt := 66) (pc := 50) Xc (dT hX7_on 28 rfl) rfl (by omega) (by omega) (fun c50 => ?_) (fun c50 => ?_)
            · skip
              have hde_ : kn_ = d_ := by omega
              subst hde_
              have hq1_ : (daysF (B 1) t nr nb kn_).1 = ac_ := (congrArg Prod.fst hq_).symm
              have hq2_ : (daysF (B 1) t nr nb kn_).2 = X1 := (congrArg Prod.snd hq_).symm
              refine e_iload_n (pc := 66) Xc (dT hX7_on 36 rfl) 2 rfl ?_
              refine e_if_ne (tgt := 74) (pc := 67) Xc (dT hX7_on 37 rfl) rfl (fun c67 => ?_) (fun c67 => ?_)
              · skip
                refine e_iload_n (pc := 74) Xc (dT hX7_on 40 rfl) 2 rfl ?_
                refine e_iconst (v := 1) (pc := 75) Xc (dT hX7_on 41 rfl) rfl ?_
                refine e_icmp_ne (tgt := 86) (pc := 76) Xc (dT hX7_on 42 rfl) rfl (fun c76 => ?_) (fun c76 => ?_)
                · skip
                  refine e_aload_n (pc := 86) Xc (dT hX7_on 46 rfl) 0 rfl ?_
                  refine e_aload_n (pc := 87) Xc (dT hX7_on 47 rfl) 0 rfl ?_
                  refine gf_X7_9 (pc := 88) Xc (dT hX7_on 48 rfl) hp.o rfl ?_
                  refine e_iconst (v := 1) (pc := 91) Xc (dT hX7_on 49 rfl) rfl ?_
                  refine e_iload_n (pc := 92) Xc (dT hX7_on 50 rfl) 2 rfl ?_
                  refine e_iadd (pc := 93) Xc (dT hX7_on 51 rfl) ?_
                  refine e_bipush (v := 10) (pc := 94) Xc (dT hX7_on 52 rfl) rfl ?_
                  refine e_isub (pc := 96) Xc (dT hX7_on 53 rfl) ?_
                  refine e_val (y := nI (1 + q_)) (idx10 hqe_) ?_
                  refine e_ialdN (pc := 97) Xc (dT hX7_on 54 rfl) hp.a1 (by decide) rfl (1 + q_) rfl (by omega) (by decide) ?_
                  refine e_val (y := X1 (1 + q_)) rfl ?_
                  refine cl_X7_168 (pc := 98) (k := 0) (n := 0) (S := []) Xc hp.o (c_orNone hp (X1 (1 + q_))) (dT hX7_on 55 rfl) rfl (Nat.le_of_ble_eq_true rfl) (Nat.le_of_ble_eq_true rfl) (Nat.le_of_ble_eq_true rfl) rfl (Nat.le_of_ble_eq_true rfl) (fun r56 σ57 hq58 => ?_)
                  obtain ⟨r56e, r56s⟩ := hq58
                  have r56e := r56e.symm; subst r56e; have r56s := r56s.symm; subst r56s
                  refine e_val (y := orN (X1 (1 + q_))) rfl ?_
                  refine e_istore (L' := [(4, .int (orN (X1 (1 + q_)))), (0, .ref m), (1, .int (nI kn_)), (2, .int w), (3, .int ac_)]) (pc := 101) Xc (dT hX7_on 56 rfl) (by decide) rfl ?_
                  refine e_aload_n (pc := 103) Xc (dT hX7_on 57 rfl) 1 rfl ?_
                  refine cl_X7_205 (pc := 104) (k := 0) (n := 0) (S := []) Xc hp.o (c_goesBack hp) (dT hX7_on 58 rfl) rfl (Nat.le_of_ble_eq_true rfl) (Nat.le_of_ble_eq_true rfl) (Nat.le_of_ble_eq_true rfl) rfl (Nat.le_of_ble_eq_true rfl) (fun σ60 hq61 => ?_)
                  obtain ⟨hP62, ho63⟩ := hq61
                  have hP62 : PX7 σ60 m F T (upA B 1 (backF X1 (B 3))) := by rw [upA_2] at hP62; exact hP62
                  refine e_iload (pc := 107) Xc (dT hX7_on 59 rfl) 0 rfl ?_
                  refine e_iret (pc := 109) Xc hQ (dT hX7_on 60 rfl) (Nat.le_refl _) (Nat.le_refl _) ?_
                  have hz : v_on (B 1) t nr nb (nI kn_) w = orN (X1 (1 + q_)) := by
                    try simp only [bI_0, bI_1, Bool.not_eq_true, Bool.not_eq_false, nI_0, nl1, nl2, nl3, nl4, nl5, nl6, nl7, nl8, nl9, nl10] at c6 c17 c31 c50 c67 c76
                    first | (simp [v_on, c6, c17, c31, c50, c67, c76, hc_q, hc_kn_, hq1_, hq2_, nI_0, nl1, nl2, nl3, nl4, nl5, nl6, nl7, nl8, nl9, nl10]; done) | (clear hK hG hT hS hPl hNo hTa hA hJ hR hD hQ Xc; simp_all [v_on, nI_0, nl1, nl2, nl3, nl4, nl5, nl6, nl7, nl8, nl9, nl10]; done)
                  exact ⟨hz.symm, ⟨_, _, _, hP62, (back_hi hf (fun j hj => by rw [← hq2_]; exact days_hi hr4 (by omega) _)), rfl, rfl, rfl, rfl⟩, (ho.tr ho63)⟩
                · skip
                  refine e_aload_n (pc := 79) Xc (dT hX7_on 43 rfl) 0 rfl ?_
                  refine cl_X7_183 (pc := 80) (k := 0) (n := 0) (S := []) Xc hp.o (c_totalNow hp hG1 hT1) (dT hX7_on 44 rfl) rfl (Nat.le_of_ble_eq_true rfl) (Nat.le_of_ble_eq_true rfl) (Nat.le_of_ble_eq_true rfl) rfl (Nat.le_of_ble_eq_true rfl) (fun r64 σ65 hq66 => ?_)
                  obtain ⟨r64e, hP67, ho68⟩ := hq66
                  have r64e := r64e.symm; subst r64e
                  refine e_val (y := totF X1 t nr) rfl ?_
                  refine e_goto (tgt := 101) (pc := 83) Xc (dT hX7_on 45 rfl) rfl ?_
                  refine e_istore (L' := [(4, .int (totF X1 t nr)), (0, .ref m), (1, .int (nI kn_)), (2, .int w), (3, .int ac_)]) (pc := 101) Xc (dT hX7_on 56 rfl) (by decide) rfl ?_
                  refine e_aload_n (pc := 103) Xc (dT hX7_on 57 rfl) 1 rfl ?_
                  refine cl_X7_205 (pc := 104) (k := 0) (n := 0) (S := []) Xc hP67.o (c_goesBack hP67) (dT hX7_on 58 rfl) rfl (Nat.le_of_ble_eq_true rfl) (Nat.le_of_ble_eq_true rfl) (Nat.le_of_ble_eq_true rfl) rfl (Nat.le_of_ble_eq_true rfl) (fun σ70 hq71 => ?_)
                  obtain ⟨hP72, ho73⟩ := hq71
                  have hP72 : PX7 σ70 m F T (upA B 1 (backF X1 (B 3))) := by rw [upA_2] at hP72; exact hP72
                  refine e_iload (pc := 107) Xc (dT hX7_on 59 rfl) 0 rfl ?_
                  refine e_iret (pc := 109) Xc hQ (dT hX7_on 60 rfl) (Nat.le_refl _) (Nat.le_refl _) ?_
                  have hz : v_on (B 1) t nr nb (nI kn_) w = totF X1 t nr := by
                    try simp only [bI_0, bI_1, Bool.not_eq_true, Bool.not_eq_false, nI_0, nl1, nl2, nl3, nl4, nl5, nl6, nl7, nl8, nl9, nl10] at c6 c17 c31 c50 c67 c76
                    first | (simp [v_on, c6, c17, c31, c50, c67, c76, hc_q, hc_kn_, hq1_, hq2_, nI_0, nl1, nl2, nl3, nl4, nl5, nl6, nl7, nl8, nl9, nl10]; done) | (clear hK hG hT hS hPl hNo hTa hA hJ hR hD hQ Xc; simp_all [v_on, nI_0, nl1, nl2, nl3, nl4, nl5, nl6, nl7, nl8, nl9, nl10]; done)
                  exact ⟨hz.symm, ⟨_, _, _, hP72, (back_hi hf (fun j hj => by rw [← hq2_]; exact days_hi hr4 (by omega) _)), rfl, rfl, rfl, rfl⟩, ((ho.tr ho68).tr ho73)⟩
              · skip
                refine e_iload_n (pc := 70) Xc (dT hX7_on 38 rfl) 4 rfl ?_
                refine e_goto (tgt := 101) (pc := 71) Xc (dT hX7_on 39 rfl) rfl ?_
                refine e_istore (L' := [(4, .int ac_), (0, .ref m), (1, .int (nI kn_)), (2, .int w), (3, .int ac_)]) (pc := 101) Xc (dT hX7_on 56 rfl) (by decide) rfl ?_
                refine e_aload_n (pc := 103) Xc (dT hX7_on 57 rfl) 1 rfl ?_
                refine cl_X7_205 (pc := 104) (k := 0) (n := 0) (S := []) Xc hp.o (c_goesBack hp) (dT hX7_on 58 rfl) rfl (Nat.le_of_ble_eq_true rfl) (Nat.le_of_ble_eq_true rfl) (Nat.le_of_ble_eq_true rfl) rfl (Nat.le_of_ble_eq_true rfl) (fun σ75 hq76 => ?_)
                obtain ⟨hP77, ho78⟩ := hq76
                have hP77 : PX7 σ75 m F T (upA B 1 (backF X1 (B 3))) := by rw [upA_2] at hP77; exact hP77
                refine e_iload (pc := 107) Xc (dT hX7_on 59 rfl) 0 rfl ?_
                refine e_iret (pc := 109) Xc hQ (dT hX7_on 60 rfl) (Nat.le_refl _) (Nat.le_refl _) ?_
                have hz : v_on (B 1) t nr nb (nI kn_) w = ac_ := by
                  try simp only [bI_0, bI_1, Bool.not_eq_true, Bool.not_eq_false, nI_0, nl1, nl2, nl3, nl4, nl5, nl6, nl7, nl8, nl9, nl10] at c6 c17 c31 c50 c67
                  first | (simp [v_on, c6, c17, c31, c50, c67, hc_q, hc_kn_, hq1_, hq2_, nI_0, nl1, nl2, nl3, nl4, nl5, nl6, nl7, nl8, nl9, nl10]; done) | (clear hK hG hT hS hPl hNo hTa hA hJ hR hD hQ Xc; simp_all [v_on, nI_0, nl1, nl2, nl3, nl4, nl5, nl6, nl7, nl8, nl9, nl10]; done)
                exact ⟨hz.symm, ⟨_, _, _, hP77, (back_hi hf (fun j hj => by rw [← hq2_]; exact days_hi hr4 (by omega) _)), rfl, rfl, rfl, rfl⟩, (ho.tr ho78)⟩
            · skip
              refine e_iload_n (pc := 53) Xc (dT hX7_on 29 rfl) 4 rfl ?_
              refine e_aload_n (pc := 54) Xc (dT hX7_on 30 rfl) 0 rfl ?_
              refine cl_X7_199 (pc := 55) (k := 0) (n := 0) (S := [.int ac_]) Xc hp.o (c_goes hp hG1 hT1) (dT hX7_on 31 rfl) rfl (Nat.le_of_ble_eq_true rfl) (Nat.le_of_ble_eq_true rfl) (Nat.le_of_ble_eq_true rfl) rfl (Nat.le_of_ble_eq_true rfl) (fun r79 σ80 hq81 => ?_)
              obtain ⟨r79e, hP82, ho83⟩ := hq81
              have r79e := r79e.symm; subst r79e
              have hP82 : PX7 σ80 m F T (upA B 1 ((goF X1 t nr nb).2)) := by rw [upA_2] at hP82; exact hP82
              refine e_val (y := (goF X1 t nr nb).1) rfl ?_
              refine e_iadd (pc := 58) Xc (dT hX7_on 32 rfl) ?_
              refine e_istore_n (L' := [(3, .int (ac_ + ((goF X1 t nr nb).1))), (0, .ref m), (1, .int (nI kn_)), (2, .int w), (4, .int (nI d_))]) (pc := 59) Xc (dT hX7_on 33 rfl) (by decide) rfl ?_
              refine e_iincN (a := d_) (b := 1) (L' := [(4, .int (nI (d_ + 1))), (3, .int (ac_ + ((goF X1 t nr nb).1))), (0, .ref m), (1, .int (nI kn_)), (2, .int w)]) (pc := 60) Xc (dT hX7_on 34 rfl) 4 rfl rfl (by decide) rfl ?_
              refine e_goto (tgt := 47) (pc := 63) Xc (dT hX7_on 35 rfl) rfl ?_
              refine Ev.pick (L' := [(0, .ref m), (1, .int (nI kn_)), (2, .int w), (4, .int (nI (d_ + 1))), (3, .int (ac_ + ((goF X1 t nr nb).1)))]) [2, 3, 4, 0, 1] rfl ?_
              exact ih47 (d_ + 1) (ac_ + ((goF X1 t nr nb).1)) ((goF X1 t nr nb).2) σ80 (by omega) (by omega) (by show _ = ((daysF (B 1) t nr nb d_).1 + (goF (daysF (B 1) t nr nb d_).2 t nr nb).1, (goF (daysF (B 1) t nr nb d_).2 t nr nb).2); rw [← hq_]) (Gd.go hG1 hT1) (Hd.go hT1 hG1) hP82 (ho.tr ho83)
        refine Ev.pick (L' := [(0, .ref m), (1, .int (nI kn_)), (2, .int w), (4, .int 0), (3, .int 0)]) [2, 3, 4, 0, 1] rfl ?_
        exact lp47 ((kn_ - 0) + 1) 0 0 (B 1) σ52 (Nat.lt_succ_self _) (Nat.zero_le _) rfl hG hT (by rw [upA_id]; exact hP54) ho55
      · skip
        refine e_sipush (v := -10002) (pc := 34) Xc (dT hX7_on 18 rfl) rfl ?_
        refine e_iret (pc := 37) Xc hQ (dT hX7_on 19 rfl) (Nat.le_refl _) (Nat.le_refl _) ?_
        have hz : v_on (A 1) t nr nb n w = (-10002) := by
          try simp only [bI_0, bI_1, Bool.not_eq_true, Bool.not_eq_false, nI_0, nl1, nl2, nl3, nl4, nl5, nl6, nl7, nl8, nl9, nl10] at c6 c17 c31
          first | (simp [v_on, c6, c17, c31, hc_q, nI_0, nl1, nl2, nl3, nl4, nl5, nl6, nl7, nl8, nl9, nl10]; done) | (clear hK hG hT hS hPl hNo hTa hA hJ hR hD hQ Xc; simp_all [v_on, nI_0, nl1, nl2, nl3, nl4, nl5, nl6, nl7, nl8, nl9, nl10]; done)
        exact ⟨hz.symm, ⟨_, _, _, hP, rfl, rfl, rfl, rfl, rfl⟩, Off.rf⟩
    · skip
      refine e_sipush (v := -10001) (pc := 20) Xc (dT hX7_on 11 rfl) rfl ?_
      refine e_iret (pc := 23) Xc hQ (dT hX7_on 12 rfl) (Nat.le_refl _) (Nat.le_refl _) ?_
      have hz : v_on (A 1) t nr nb n w = (-10001) := by
        try simp only [bI_0, bI_1, Bool.not_eq_true, Bool.not_eq_false, nI_0, nl1, nl2, nl3, nl4, nl5, nl6, nl7, nl8, nl9, nl10] at c6 c17
        first | (simp [v_on, c6, c17, nI_0, nl1, nl2, nl3, nl4, nl5, nl6, nl7, nl8, nl9, nl10]; done) | (clear hK hG hT hS hPl hNo hTa hA hJ hR hD hQ Xc; simp_all [v_on, nI_0, nl1, nl2, nl3, nl4, nl5, nl6, nl7, nl8, nl9, nl10]; done)
      exact ⟨hz.symm, ⟨_, _, _, hP, rfl, rfl, rfl, rfl, rfl⟩, Off.rf⟩
set_option maxRecDepth 100000 in
set_option maxHeartbeats 4000000 in
theorem p_until {G : xG} {σ : xS} {m : Nat} {X Y bd : Nat → Int32} {hi rn : Int32} (hM : MK σ m X Y bd hi rn) {nr nb ns np nn nt na dy : Nat} {t : xT} (hK : OK X nr nb t ns np nn nt na dy) (w : Int32) : CI G yX7_until cX7_until 4 (some .int) 6 0 0 [.ref m, .int w] σ (fun z σ1 => z = v_until X t nr nb w ∧ MK σ1 m X Y bd hi rn ∧ Off m σ σ1) := by
  refine Met.ofX (by decide +kernel) (Nat.le_of_ble_eq_true rfl) (fun μ Xc hQ hnm => ?_)
  have Xc : xC G μ cX7_until 4 RX7 (some .int) 6 0 0 := Xc
  obtain ⟨F, T, A, hP, e1, e2, e3, e4, e5⟩ := hM
  subst e1 e2 e3 e4 e5
  obtain ⟨hG, hT, hS, hPl, hNo, hTa, hA, hJ, hR, hD⟩ := id hK
  have hr4 := hG.r4
  have hb7 := hG.b7
  have hs6 := hS.1
  have hp8 := hPl.1
  have hn8 := hNo.1
  have ht100 := hTa.1
  have ha5 := hA.1
  have hd9 := hD.1
  show Ev G μ 4 0 0 0 [(0, .ref m), (1, .int w)] [] σ
  refine e_iload_n (pc := 0) Xc (dT hX7_until 0 rfl) 1 rfl ?_
  refine e_iconst (v := 0) (pc := 1) Xc (dT hX7_until 1 rfl) rfl ?_
  refine e_iconst (v := 1) (pc := 2) Xc (dT hX7_until 2 rfl) rfl ?_
  refine cl_X7_50 (pc := 3) (k := 0) (n := 0) (S := []) Xc (c_in w 0 1) (dT hX7_until 3 rfl) rfl (Nat.le_of_ble_eq_true rfl) (Nat.le_of_ble_eq_true rfl) (Nat.le_of_ble_eq_true rfl) rfl (Nat.le_of_ble_eq_true rfl) (fun r1 σ2 hq3 => ?_)
  obtain ⟨r1e, r1s⟩ := hq3
  have r1e := r1e.symm; subst r1e; have r1s := r1s.symm; subst r1s
  refine e_if_ne (tgt := 11) (pc := 6) Xc (dT hX7_until 4 rfl) rfl (fun c6 => ?_) (fun c6 => ?_)
  · skip
    refine e_aload_n (pc := 11) Xc (dT hX7_until 7 rfl) 0 rfl ?_
    refine cl_X7_202 (pc := 12) (k := 0) (n := 0) (S := []) Xc hP.o (c_keeps hP) (dT hX7_until 8 rfl) rfl (Nat.le_of_ble_eq_true rfl) (Nat.le_of_ble_eq_true rfl) (Nat.le_of_ble_eq_true rfl) rfl (Nat.le_of_ble_eq_true rfl) (fun σ5 hq6 => ?_)
    obtain ⟨fr, hP7, hf0, ho8⟩ := hq6
    obtain ⟨B, hP7, b1, b2, b11, hf⟩ : ∃ B, PX7 σ5 m F T B ∧ A 1 = B 1 ∧ A 2 = B 2 ∧ A 11 = B 11 ∧ ∀ j, j < 12 → B 3 j = B 1 j := ⟨_, hP7, rfl, rfl, rfl, hf0⟩
    rw [b1] at hK
    rw [b1, b2, b11] at hQ
    try simp only [b1] at *
    obtain ⟨hG, hT, hS, hPl, hNo, hTa, hA, hJ, hR, hD⟩ := id hK
    refine e_bipush (v := -5) (pc := 15) Xc (dT hX7_until 9 rfl) rfl ?_
    refine e_istore_n (L' := [(2, .int (-5)), (0, .ref m), (1, .int w)]) (pc := 17) Xc (dT hX7_until 10 rfl) (by decide) rfl ?_
    refine e_iconst (v := 0) (pc := 18) Xc (dT hX7_until 11 rfl) rfl ?_
    refine e_istore_n (L' := [(3, .int 0), (2, .int (-5)), (0, .ref m), (1, .int w)]) (pc := 19) Xc (dT hX7_until 12 rfl) (by decide) rfl ?_
    have lp20 : ∀ (n20 : Nat) (n_ : Nat) (fd_ : Int32) (X1 : Nat → Int32) (σ2 : xS), 41 - n_ < n20 → (n_ ≤ 41) → (fd_ = fndF (fun n_ => overF (daysF (B 1) t nr nb n_).2 t nr nb w) n_) → (X1 = (daysF (B 1) t nr nb n_).2) → (Gd X1 nr nb) → (Hd X1 t) → (PX7 σ2 m F T (upA B 1 X1)) → (Off m σ σ2) → Ev G μ 4 0 0 20 [(0, .ref m), (1, .int w), (2, .int fd_), (3, .int (nI n_))] [] σ2 := by
      intro n20
      induction n20 with
      | zero => intro n_ fd_ X1 σ2 hn; exact absurd hn (Nat.not_lt_zero _)
      | succ n20 ih20 =>
        intro n_ fd_ X1 σ2 hn20 hn_ hfd_ hX_ hG1 hT1 hp ho
        refine e_iload_n (pc := 20) Xc (dT hX7_until 13 rfl) 3 rfl ?_
        refine e_bipush (v := 40) (pc := 21) Xc (dT hX7_until 14 rfl) rfl ?_
        refine e_icmp_gtN (x := n_) (y := 40) (tgt := 58) (pc := 23) Xc (dT hX7_until 15 rfl) rfl (by omega) (by omega) (fun c23 => ?_) (fun c23 => ?_)
        · skip
          have hne_ : n_ = 41 := by omega
          subst hne_
          have hfin_ : fndF (fun n_ => overF (daysF (B 1) t nr nb n_).2 t nr nb w) 41 = fd_ := hfd_.symm
          refine e_aload_n (pc := 58) Xc (dT hX7_until 32 rfl) 0 rfl ?_
          refine cl_X7_205 (pc := 59) (k := 0) (n := 0) (S := []) Xc hp.o (c_goesBack hp) (dT hX7_until 33 rfl) rfl (Nat.le_of_ble_eq_true rfl) (Nat.le_of_ble_eq_true rfl) (Nat.le_of_ble_eq_true rfl) rfl (Nat.le_of_ble_eq_true rfl) (fun σ10 hq11 => ?_)
          obtain ⟨hP12, ho13⟩ := hq11
          have hP12 : PX7 σ10 m F T (upA B 1 (backF X1 (B 3))) := by rw [upA_2] at hP12; exact hP12
          refine e_iload_n (pc := 62) Xc (dT hX7_until 34 rfl) 2 rfl ?_
          refine e_iret (pc := 63) Xc hQ (dT hX7_until 35 rfl) (Nat.le_refl _) (Nat.le_refl _) ?_
          have hz : v_until (B 1) t nr nb w = fd_ := by
            try simp only [bI_0, bI_1, Bool.not_eq_true, Bool.not_eq_false] at c6 c23
            first | (simp [v_until, c6, c23, hfin_]; done) | (clear hK hG hT hS hPl hNo hTa hA hJ hR hD hQ Xc; simp_all [v_until]; done)
          exact ⟨hz.symm, ⟨_, _, _, hP12, (back_hi hf (fun j hj => by rw [hX_]; exact days_hi hr4 (by omega) _)), rfl, rfl, rfl, rfl⟩, (ho.tr ho13)⟩
        · skip
          refine e_iload_n (pc := 26) Xc (dT hX7_until 16 rfl) 2 rfl ?_
          refine e_bipush (v := -5) (pc := 27) Xc (dT hX7_until 17 rfl) rfl ?_
          refine e_icmp_ne (tgt := 58) (pc := 29) Xc (dT hX7_until 18 rfl) rfl (fun c29 => ?_) (fun c29 => ?_)
          · skip
            have hfin_ : fndF (fun n_ => overF (daysF (B 1) t nr nb n_).2 t nr nb w) 41 = fd_ := (fnd_mono (by omega) (fun e_ => c29 (hfd_.trans e_)) hn_).trans hfd_.symm
            refine e_aload_n (pc := 58) Xc (dT hX7_until 32 rfl) 0 rfl ?_
            refine cl_X7_205 (pc := 59) (k := 0) (n := 0) (S := []) Xc hp.o (c_goesBack hp) (dT hX7_until 33 rfl) rfl (Nat.le_of_ble_eq_true rfl) (Nat.le_of_ble_eq_true rfl) (Nat.le_of_ble_eq_true rfl) rfl (Nat.le_of_ble_eq_true rfl) (fun σ15 hq16 => ?_)
            obtain ⟨hP17, ho18⟩ := hq16
            have hP17 : PX7 σ15 m F T (upA B 1 (backF X1 (B 3))) := by rw [upA_2] at hP17; exact hP17
            refine e_iload_n (pc := 62) Xc (dT hX7_until 34 rfl) 2 rfl ?_
            refine e_iret (pc := 63) Xc hQ (dT hX7_until 35 rfl) (Nat.le_refl _) (Nat.le_refl _) ?_
            have hz : v_until (B 1) t nr nb w = fd_ := by
              try simp only [bI_0, bI_1, Bool.not_eq_true, Bool.not_eq_false] at c6 c23 c29
              first | (simp [v_until, c6, c23, c29, hfin_]; done) | (clear hK hG hT hS hPl hNo hTa hA hJ hR hD hQ Xc; simp_all [v_until]; done)
            exact ⟨hz.symm, ⟨_, _, _, hP17, (back_hi hf (fun j hj => by rw [hX_]; exact days_hi hr4 (by omega) _)), rfl, rfl, rfl, rfl⟩, (ho.tr ho18)⟩
          · skip
            refine e_aload_n (pc := 32) Xc (dT hX7_until 19 rfl) 0 rfl ?_
            refine e_iload_n (pc := 33) Xc (dT hX7_until 20 rfl) 1 rfl ?_
            refine cl_X7_208 (pc := 34) (k := 0) (n := 0) (S := []) Xc hp.o (c_isOver hp hG1 hT1 w) (dT hX7_until 21 rfl) rfl (Nat.le_of_ble_eq_true rfl) (Nat.le_of_ble_eq_true rfl) (Nat.le_of_ble_eq_true rfl) rfl (Nat.le_of_ble_eq_true rfl) (fun r19 σ20 hq21 => ?_)
            obtain ⟨r19e, hP22, ho23⟩ := hq21
            have r19e := r19e.symm; subst r19e
            refine e_val (y := bI (overF X1 t nr nb w)) rfl ?_
            refine e_if_eq (tgt := 44) (pc := 37) Xc (dT hX7_until 22 rfl) rfl (fun c37 => ?_) (fun c37 => ?_)
            · skip
              refine e_bipush (v := -5) (pc := 44) Xc (dT hX7_until 25 rfl) rfl ?_
              refine e_istore_n (L' := [(2, .int (-5)), (0, .ref m), (1, .int w), (3, .int (nI n_))]) (pc := 46) Xc (dT hX7_until 26 rfl) (by decide) rfl ?_
              refine e_aload_n (pc := 47) Xc (dT hX7_until 27 rfl) 1 rfl ?_
              refine cl_X7_199 (pc := 48) (k := 0) (n := 0) (S := []) Xc hP22.o (c_goes hP22 hG1 hT1) (dT hX7_until 28 rfl) rfl (Nat.le_of_ble_eq_true rfl) (Nat.le_of_ble_eq_true rfl) (Nat.le_of_ble_eq_true rfl) rfl (Nat.le_of_ble_eq_true rfl) (fun r24 σ25 hq26 => ?_)
              obtain ⟨r24e, hP27, ho28⟩ := hq26
              have r24e := r24e.symm; subst r24e
              have hP27 : PX7 σ25 m F T (upA B 1 ((goF X1 t nr nb).2)) := by rw [upA_2] at hP27; exact hP27
              refine e_val (y := (goF X1 t nr nb).1) rfl ?_
              refine e_pop (pc := 51) Xc (dT hX7_until 29 rfl) rfl ?_
              refine e_iincN (a := n_) (b := 1) (L' := [(3, .int (nI (n_ + 1))), (2, .int (-5)), (0, .ref m), (1, .int w)]) (pc := 52) Xc (dT hX7_until 30 rfl) 3 rfl rfl (by decide) rfl ?_
              refine e_goto (tgt := 20) (pc := 55) Xc (dT hX7_until 31 rfl) rfl ?_
              refine Ev.pick (L' := [(0, .ref m), (1, .int w), (2, .int (-5)), (3, .int (nI (n_ + 1)))]) [2, 3, 1, 0] rfl ?_
              exact ih20 (n_ + 1) (-5) ((goF X1 t nr nb).2) σ25 (by omega) (by omega) (by rw [fnd_step (by omega) (hfd_.symm.trans c29)]; show _ = if overF (daysF (B 1) t nr nb n_).2 t nr nb w = true then nI n_ else -5; rw [← hX_]; simp only [bI_0, Bool.not_eq_true, Bool.not_eq_false] at c37; rw [c37]; rfl) (by rw [hX_]; rfl) (Gd.go hG1 hT1) (Hd.go hT1 hG1) hP27 ((ho.tr ho23).tr ho28)
            · skip
              refine e_iload_n (pc := 40) Xc (dT hX7_until 23 rfl) 3 rfl ?_
              refine e_goto (tgt := 46) (pc := 41) Xc (dT hX7_until 24 rfl) rfl ?_
              refine e_istore_n (L' := [(2, .int (nI n_)), (0, .ref m), (1, .int w), (3, .int (nI n_))]) (pc := 46) Xc (dT hX7_until 26 rfl) (by decide) rfl ?_
              refine e_aload_n (pc := 47) Xc (dT hX7_until 27 rfl) 1 rfl ?_
              refine cl_X7_199 (pc := 48) (k := 0) (n := 0) (S := []) Xc hP22.o (c_goes hP22 hG1 hT1) (dT hX7_until 28 rfl) rfl (Nat.le_of_ble_eq_true rfl) (Nat.le_of_ble_eq_true rfl) (Nat.le_of_ble_eq_true rfl) rfl (Nat.le_of_ble_eq_true rfl) (fun r29 σ30 hq31 => ?_)
              obtain ⟨r29e, hP32, ho33⟩ := hq31
              have r29e := r29e.symm; subst r29e
              have hP32 : PX7 σ30 m F T (upA B 1 ((goF X1 t nr nb).2)) := by rw [upA_2] at hP32; exact hP32
              refine e_val (y := (goF X1 t nr nb).1) rfl ?_
              refine e_pop (pc := 51) Xc (dT hX7_until 29 rfl) rfl ?_
              refine e_iincN (a := n_) (b := 1) (L' := [(3, .int (nI (n_ + 1))), (2, .int (nI n_)), (0, .ref m), (1, .int w)]) (pc := 52) Xc (dT hX7_until 30 rfl) 3 rfl rfl (by decide) rfl ?_
              refine e_goto (tgt := 20) (pc := 55) Xc (dT hX7_until 31 rfl) rfl ?_
              refine Ev.pick (L' := [(0, .ref m), (1, .int w), (2, .int (nI n_)), (3, .int (nI (n_ + 1)))]) [2, 3, 1, 0] rfl ?_
              exact ih20 (n_ + 1) (nI n_) ((goF X1 t nr nb).2) σ30 (by omega) (by omega) (by rw [fnd_step (by omega) (hfd_.symm.trans c29)]; show _ = if overF (daysF (B 1) t nr nb n_).2 t nr nb w = true then nI n_ else -5; rw [← hX_]; simp only [bI_0, Bool.not_eq_true, Bool.not_eq_false] at c37; rw [c37]; rfl) (by rw [hX_]; rfl) (Gd.go hG1 hT1) (Hd.go hT1 hG1) hP32 ((ho.tr ho23).tr ho33)
    refine Ev.pick (L' := [(0, .ref m), (1, .int w), (2, .int (-5)), (3, .int 0)]) [2, 3, 1, 0] rfl ?_
    exact lp20 ((41 - 0) + 1) 0 (-5) (B 1) σ5 (Nat.lt_succ_self _) (Nat.zero_le _) rfl rfl hG hT (by rw [upA_id]; exact hP7) ho8
  · skip
    refine e_iconst (v := -1) (pc := 9) Xc (dT hX7_until 5 rfl) rfl ?_
    refine e_iret (pc := 10) Xc hQ (dT hX7_until 6 rfl) (Nat.le_refl _) (Nat.le_refl _) ?_
    have hz : v_until (A 1) t nr nb w = (-1) := by
      try simp only [bI_0, bI_1, Bool.not_eq_true, Bool.not_eq_false] at c6
      first | (simp [v_until, c6]; done) | (clear hK hG hT hS hPl hNo hTa hA hJ hR hD hQ Xc; simp_all [v_until]; done)
    exact ⟨hz.symm, ⟨_, _, _, hP, rfl, rfl, rfl, rfl, rfl⟩, Off.rf⟩
set_option maxRecDepth 100000 in
set_option maxHeartbeats 4000000 in
theorem p_glues {G : xG} {σ : xS} {m : Nat} {X Y bd : Nat → Int32} {hi rn : Int32} (hM : MK σ m X Y bd hi rn) {nr nb ns np nn nt na dy : Nat} {t : xT} (hK : OK X nr nb t ns np nn nt na dy) (v : Int32) (b : Int32) : CI G yX7_glues cX7_glues 5 (some .int) 5 0 0 [.ref m, .int v, .int b] σ (fun z σ1 => z = v_glues X nr nb v b ∧ MK σ1 m X Y bd hi rn ∧ Off m σ σ1) := by
  refine Met.ofX (by decide +kernel) (Nat.le_of_ble_eq_true rfl) (fun μ Xc hQ hnm => ?_)
  have Xc : xC G μ cX7_glues 5 RX7 (some .int) 5 0 0 := Xc
  obtain ⟨F, T, A, hP, e1, e2, e3, e4, e5⟩ := hM
  subst e1 e2 e3 e4 e5
  obtain ⟨hG, hT, hS, hPl, hNo, hTa, hA, hJ, hR, hD⟩ := id hK
  have hr4 := hG.r4
  have hb7 := hG.b7
  have hs6 := hS.1
  have hp8 := hPl.1
  have hn8 := hNo.1
  have ht100 := hTa.1
  have ha5 := hA.1
  have hd9 := hD.1
  show Ev G μ 5 0 0 0 [(0, .ref m), (1, .int v), (2, .int b)] [] σ
  refine e_aload_n (pc := 0) Xc (dT hX7_glues 0 rfl) 0 rfl ?_
  refine e_iload_n (pc := 1) Xc (dT hX7_glues 1 rfl) 1 rfl ?_
  refine cl_X7_165 (pc := 2) (k := 0) (n := 0) (S := []) Xc hP.o (c_isReader hP hG v) (dT hX7_glues 2 rfl) rfl (Nat.le_of_ble_eq_true rfl) (Nat.le_of_ble_eq_true rfl) (Nat.le_of_ble_eq_true rfl) rfl (Nat.le_of_ble_eq_true rfl) (fun r1 σ2 hq3 => ?_)
  obtain ⟨r1e, r1s⟩ := hq3
  have r1e := r1e.symm; subst r1e; have r1s := r1s.symm; subst r1s
  refine e_if_eq (tgt := 16) (pc := 5) Xc (dT hX7_glues 3 rfl) rfl (fun c5 => ?_) (fun c5 => ?_)
  · skip
    refine e_iconst (v := -1) (pc := 16) Xc (dT hX7_glues 8 rfl) rfl ?_
    refine e_iret (pc := 17) Xc hQ (dT hX7_glues 9 rfl) (Nat.le_refl _) (Nat.le_refl _) ?_
    have hz : v_glues (A 1) nr nb v b = (-1) := by
      try simp only [bI_0, bI_1, Bool.not_eq_true, Bool.not_eq_false] at c5
      first | (simp [v_glues, c5]; done) | (clear hK hG hT hS hPl hNo hTa hA hJ hR hD hQ Xc; simp_all [v_glues]; done)
    exact ⟨hz.symm, ⟨_, _, _, hP, rfl, rfl, rfl, rfl, rfl⟩, Off.rf⟩
  · skip
    obtain ⟨q, hq, rfl⟩ := inF_nat (v := v) (n := nr) (by omega) (by simpa [bI_0, bI_1] using c5)
    have hc_q : cl (nI q) = q := cl_nI (by omega)
    refine e_aload_n (pc := 8) Xc (dT hX7_glues 4 rfl) 0 rfl ?_
    refine e_iload_n (pc := 9) Xc (dT hX7_glues 5 rfl) 2 rfl ?_
    refine cl_X7_177 (pc := 10) (k := 0) (n := 0) (S := []) Xc hP.o (c_isBook hP hG b) (dT hX7_glues 6 rfl) rfl (Nat.le_of_ble_eq_true rfl) (Nat.le_of_ble_eq_true rfl) (Nat.le_of_ble_eq_true rfl) rfl (Nat.le_of_ble_eq_true rfl) (fun r4 σ5 hq6 => ?_)
    obtain ⟨r4e, r4s⟩ := hq6
    have r4e := r4e.symm; subst r4e; have r4s := r4s.symm; subst r4s
    refine e_if_ne (tgt := 18) (pc := 13) Xc (dT hX7_glues 7 rfl) rfl (fun c13 => ?_) (fun c13 => ?_)
    · skip
      obtain ⟨p, hp, rfl⟩ := inF_nat (v := b) (n := nb) (by omega) (by simpa [bI_0, bI_1] using c13)
      have hc_p : cl (nI p) = p := cl_nI (by omega)
      refine e_aload_n (pc := 18) Xc (dT hX7_glues 10 rfl) 0 rfl ?_
      refine cl_X7_202 (pc := 19) (k := 0) (n := 0) (S := []) Xc hP.o (c_keeps hP) (dT hX7_glues 11 rfl) rfl (Nat.le_of_ble_eq_true rfl) (Nat.le_of_ble_eq_true rfl) (Nat.le_of_ble_eq_true rfl) rfl (Nat.le_of_ble_eq_true rfl) (fun σ8 hq9 => ?_)
      obtain ⟨fr, hP10, hf0, ho11⟩ := hq9
      obtain ⟨B, hP10, b1, b2, b11, hf⟩ : ∃ B, PX7 σ8 m F T B ∧ A 1 = B 1 ∧ A 2 = B 2 ∧ A 11 = B 11 ∧ ∀ j, j < 12 → B 3 j = B 1 j := ⟨_, hP10, rfl, rfl, rfl, hf0⟩
      rw [b1] at hK
      rw [b1, b2, b11] at hQ
      try simp only [b1] at *
      obtain ⟨hG, hT, hS, hPl, hNo, hTa, hA, hJ, hR, hD⟩ := id hK
      refine e_bipush (v := -5) (pc := 22) Xc (dT hX7_glues 12 rfl) rfl ?_
      refine e_istore_n (L' := [(3, .int (-5)), (0, .ref m), (1, .int (nI q)), (2, .int (nI p))]) (pc := 24) Xc (dT hX7_glues 13 rfl) (by decide) rfl ?_
      refine e_iconst (v := 0) (pc := 25) Xc (dT hX7_glues 14 rfl) rfl ?_
      refine e_istore (L' := [(4, .int 0), (3, .int (-5)), (0, .ref m), (1, .int (nI q)), (2, .int (nI p))]) (pc := 26) Xc (dT hX7_glues 15 rfl) (by decide) rfl ?_
      have lp28 : ∀ (n28 : Nat) (n_ : Nat) (fd_ : Int32) (X1 : Nat → Int32) (σ2 : xS), 21 - n_ < n28 → (n_ ≤ 21) → (fd_ = fndF (fun n_ => mayF (pasN (B 1) q 1 n_) nr q p) n_) → (X1 = pasN (B 1) q 1 n_) → (Gd X1 nr nb) → (Hd X1 t) → (PX7 σ2 m F T (upA B 1 X1)) → (Off m σ σ2) → Ev G μ 5 0 0 28 [(0, .ref m), (1, .int (nI q)), (2, .int (nI p)), (3, .int fd_), (4, .int (nI n_))] [] σ2 := by
        intro n28
        induction n28 with
        | zero => intro n_ fd_ X1 σ2 hn; exact absurd hn (Nat.not_lt_zero _)
        | succ n28 ih28 =>
          intro n_ fd_ X1 σ2 hn28 hn_ hfd_ hX_ hG1 hT1 hp ho
          refine e_iload (pc := 28) Xc (dT hX7_glues 16 rfl) 4 rfl ?_
          refine e_bipush (v := 20) (pc := 30) Xc (dT hX7_glues 17 rfl) rfl ?_
          refine e_icmp_gtN (x := n_) (y := 20) (tgt := 70) (pc := 32) Xc (dT hX7_glues 18 rfl) rfl (by omega) (by omega) (fun c32 => ?_) (fun c32 => ?_)
          · skip
            have hne_ : n_ = 21 := by omega
            subst hne_
            have hfin_ : fndF (fun n_ => mayF (pasN (B 1) q 1 n_) nr q p) 21 = fd_ := hfd_.symm
            refine e_aload_n (pc := 70) Xc (dT hX7_glues 37 rfl) 0 rfl ?_
            refine cl_X7_205 (pc := 71) (k := 0) (n := 0) (S := []) Xc hp.o (c_goesBack hp) (dT hX7_glues 38 rfl) rfl (Nat.le_of_ble_eq_true rfl) (Nat.le_of_ble_eq_true rfl) (Nat.le_of_ble_eq_true rfl) rfl (Nat.le_of_ble_eq_true rfl) (fun σ13 hq14 => ?_)
            obtain ⟨hP15, ho16⟩ := hq14
            have hP15 : PX7 σ13 m F T (upA B 1 (backF X1 (B 3))) := by rw [upA_2] at hP15; exact hP15
            refine e_iload_n (pc := 74) Xc (dT hX7_glues 39 rfl) 3 rfl ?_
            refine e_iret (pc := 75) Xc hQ (dT hX7_glues 40 rfl) (Nat.le_refl _) (Nat.le_refl _) ?_
            have hz : v_glues (B 1) nr nb (nI q) (nI p) = fd_ := by
              try simp only [bI_0, bI_1, Bool.not_eq_true, Bool.not_eq_false] at c5 c13 c32
              first | (simp [v_glues, c5, c13, c32, hc_q, hc_p, hfin_]; done) | (clear hK hG hT hS hPl hNo hTa hA hJ hR hD hQ Xc; simp_all [v_glues]; done)
            exact ⟨hz.symm, ⟨_, _, _, hP15, (back_hi hf (fun j hj => by rw [hX_]; exact pasN_hi hG (by omega) _ _ hj)), rfl, rfl, rfl, rfl⟩, (ho.tr ho16)⟩
          · skip
            refine e_iload_n (pc := 35) Xc (dT hX7_glues 19 rfl) 3 rfl ?_
            refine e_bipush (v := -5) (pc := 36) Xc (dT hX7_glues 20 rfl) rfl ?_
            refine e_icmp_ne (tgt := 70) (pc := 38) Xc (dT hX7_glues 21 rfl) rfl (fun c38 => ?_) (fun c38 => ?_)
            · skip
              have hfin_ : fndF (fun n_ => mayF (pasN (B 1) q 1 n_) nr q p) 21 = fd_ := (fnd_mono (by omega) (fun e_ => c38 (hfd_.trans e_)) hn_).trans hfd_.symm
              refine e_aload_n (pc := 70) Xc (dT hX7_glues 37 rfl) 0 rfl ?_
              refine cl_X7_205 (pc := 71) (k := 0) (n := 0) (S := []) Xc hp.o (c_goesBack hp) (dT hX7_glues 38 rfl) rfl (Nat.le_of_ble_eq_true rfl) (Nat.le_of_ble_eq_true rfl) (Nat.le_of_ble_eq_true rfl) rfl (Nat.le_of_ble_eq_true rfl) (fun σ18 hq19 => ?_)
              obtain ⟨hP20, ho21⟩ := hq19
              have hP20 : PX7 σ18 m F T (upA B 1 (backF X1 (B 3))) := by rw [upA_2] at hP20; exact hP20
              refine e_iload_n (pc := 74) Xc (dT hX7_glues 39 rfl) 3 rfl ?_
              refine e_iret (pc := 75) Xc hQ (dT hX7_glues 40 rfl) (Nat.le_refl _) (Nat.le_refl _) ?_
              have hz : v_glues (B 1) nr nb (nI q) (nI p) = fd_ := by
                try simp only [bI_0, bI_1, Bool.not_eq_true, Bool.not_eq_false] at c5 c13 c32 c38
                first | (simp [v_glues, c5, c13, c32, c38, hc_q, hc_p, hfin_]; done) | (clear hK hG hT hS hPl hNo hTa hA hJ hR hD hQ Xc; simp_all [v_glues]; done)
              exact ⟨hz.symm, ⟨_, _, _, hP20, (back_hi hf (fun j hj => by rw [hX_]; exact pasN_hi hG (by omega) _ _ hj)), rfl, rfl, rfl, rfl⟩, (ho.tr ho21)⟩
            · skip
              refine e_aload_n (pc := 41) Xc (dT hX7_glues 22 rfl) 0 rfl ?_
              refine e_iload_n (pc := 42) Xc (dT hX7_glues 23 rfl) 1 rfl ?_
              refine e_iload_n (pc := 43) Xc (dT hX7_glues 24 rfl) 2 rfl ?_
              refine cl_X7_154 (pc := 44) (k := 0) (n := 0) (S := []) Xc hp.o (c_may hp hG1 q p (by omega) (by omega)) (dT hX7_glues 25 rfl) rfl (Nat.le_of_ble_eq_true rfl) (Nat.le_of_ble_eq_true rfl) (Nat.le_of_ble_eq_true rfl) rfl (Nat.le_of_ble_eq_true rfl) (fun r22 σ23 hq24 => ?_)
              obtain ⟨r22e, r22s⟩ := hq24
              have r22e := r22e.symm; subst r22e; have r22s := r22s.symm; subst r22s
              refine e_val (y := bI (mayF X1 nr q p)) rfl ?_
              refine e_if_eq (tgt := 55) (pc := 47) Xc (dT hX7_glues 26 rfl) rfl (fun c47 => ?_) (fun c47 => ?_)
              · skip
                refine e_bipush (v := -5) (pc := 55) Xc (dT hX7_glues 29 rfl) rfl ?_
                refine e_istore_n (L' := [(3, .int (-5)), (0, .ref m), (1, .int (nI q)), (2, .int (nI p)), (4, .int (nI n_))]) (pc := 57) Xc (dT hX7_glues 30 rfl) (by decide) rfl ?_
                refine e_aload_n (pc := 58) Xc (dT hX7_glues 31 rfl) 1 rfl ?_
                refine e_iload_n (pc := 59) Xc (dT hX7_glues 32 rfl) 2 rfl ?_
                refine e_iconst (v := 1) (pc := 60) Xc (dT hX7_glues 33 rfl) rfl ?_
                refine cl_X7_195 (pc := 61) (k := 0) (n := 0) (S := []) Xc hp.o (c_pastes hp hG1 q (by omega) 1) (dT hX7_glues 34 rfl) rfl (Nat.le_of_ble_eq_true rfl) (Nat.le_of_ble_eq_true rfl) (Nat.le_of_ble_eq_true rfl) rfl (Nat.le_of_ble_eq_true rfl) (fun σ26 hq27 => ?_)
                obtain ⟨hP28, ho29⟩ := hq27
                have hP28 : PX7 σ26 m F T (upA B 1 (pastF X1 q 1)) := by rw [upA_2] at hP28; exact hP28
                refine e_iincN (a := n_) (b := 1) (L' := [(4, .int (nI (n_ + 1))), (3, .int (-5)), (0, .ref m), (1, .int (nI q)), (2, .int (nI p))]) (pc := 64) Xc (dT hX7_glues 35 rfl) 4 rfl rfl (by decide) rfl ?_
                refine e_goto (tgt := 28) (pc := 67) Xc (dT hX7_glues 36 rfl) rfl ?_
                refine Ev.pick (L' := [(0, .ref m), (1, .int (nI q)), (2, .int (nI p)), (3, .int (-5)), (4, .int (nI (n_ + 1)))]) [2, 3, 4, 1, 0] rfl ?_
                exact ih28 (n_ + 1) (-5) (pastF X1 q 1) σ26 (by omega) (by omega) (by rw [fnd_step (by omega) (hfd_.symm.trans c38)]; show _ = if mayF (pasN (B 1) q 1 n_) nr q p = true then nI n_ else -5; rw [← hX_]; simp only [bI_0, Bool.not_eq_true, Bool.not_eq_false] at c47; rw [c47]; rfl) (by rw [hX_]; rfl) (Gd.past hG1 (by omega)) (Hd.past hT1 hG1 (by omega)) hP28 (ho.tr ho29)
              · skip
                refine e_iload (pc := 50) Xc (dT hX7_glues 27 rfl) 4 rfl ?_
                refine e_goto (tgt := 57) (pc := 52) Xc (dT hX7_glues 28 rfl) rfl ?_
                refine e_istore_n (L' := [(3, .int (nI n_)), (0, .ref m), (1, .int (nI q)), (2, .int (nI p)), (4, .int (nI n_))]) (pc := 57) Xc (dT hX7_glues 30 rfl) (by decide) rfl ?_
                refine e_aload_n (pc := 58) Xc (dT hX7_glues 31 rfl) 1 rfl ?_
                refine e_iload_n (pc := 59) Xc (dT hX7_glues 32 rfl) 2 rfl ?_
                refine e_iconst (v := 1) (pc := 60) Xc (dT hX7_glues 33 rfl) rfl ?_
                refine cl_X7_195 (pc := 61) (k := 0) (n := 0) (S := []) Xc hp.o (c_pastes hp hG1 q (by omega) 1) (dT hX7_glues 34 rfl) rfl (Nat.le_of_ble_eq_true rfl) (Nat.le_of_ble_eq_true rfl) (Nat.le_of_ble_eq_true rfl) rfl (Nat.le_of_ble_eq_true rfl) (fun σ31 hq32 => ?_)
                obtain ⟨hP33, ho34⟩ := hq32
                have hP33 : PX7 σ31 m F T (upA B 1 (pastF X1 q 1)) := by rw [upA_2] at hP33; exact hP33
                refine e_iincN (a := n_) (b := 1) (L' := [(4, .int (nI (n_ + 1))), (3, .int (nI n_)), (0, .ref m), (1, .int (nI q)), (2, .int (nI p))]) (pc := 64) Xc (dT hX7_glues 35 rfl) 4 rfl rfl (by decide) rfl ?_
                refine e_goto (tgt := 28) (pc := 67) Xc (dT hX7_glues 36 rfl) rfl ?_
                refine Ev.pick (L' := [(0, .ref m), (1, .int (nI q)), (2, .int (nI p)), (3, .int (nI n_)), (4, .int (nI (n_ + 1)))]) [2, 3, 4, 1, 0] rfl ?_
                exact ih28 (n_ + 1) (nI n_) (pastF X1 q 1) σ31 (by omega) (by omega) (by rw [fnd_step (by omega) (hfd_.symm.trans c38)]; show _ = if mayF (pasN (B 1) q 1 n_) nr q p = true then nI n_ else -5; rw [← hX_]; simp only [bI_0, Bool.not_eq_true, Bool.not_eq_false] at c47; rw [c47]; rfl) (by rw [hX_]; rfl) (Gd.past hG1 (by omega)) (Hd.past hT1 hG1 (by omega)) hP33 (ho.tr ho34)
      refine Ev.pick (L' := [(0, .ref m), (1, .int (nI q)), (2, .int (nI p)), (3, .int (-5)), (4, .int 0)]) [2, 3, 4, 1, 0] rfl ?_
      exact lp28 ((21 - 0) + 1) 0 (-5) (B 1) σ8 (Nat.lt_succ_self _) (Nat.zero_le _) rfl rfl hG hT (by rw [upA_id]; exact hP10) ho11
    · skip
      refine e_iconst (v := -1) (pc := 16) Xc (dT hX7_glues 8 rfl) rfl ?_
      refine e_iret (pc := 17) Xc hQ (dT hX7_glues 9 rfl) (Nat.le_refl _) (Nat.le_refl _) ?_
      have hz : v_glues (A 1) nr nb (nI q) b = (-1) := by
        try simp only [bI_0, bI_1, Bool.not_eq_true, Bool.not_eq_false] at c5 c13
        first | (simp [v_glues, c5, c13, hc_q]; done) | (clear hK hG hT hS hPl hNo hTa hA hJ hR hD hQ Xc; simp_all [v_glues]; done)
      exact ⟨hz.symm, ⟨_, _, _, hP, rfl, rfl, rfl, rfl, rfl⟩, Off.rf⟩
set_option maxRecDepth 100000 in
set_option maxHeartbeats 4000000 in
theorem p_tears {G : xG} {σ : xS} {m : Nat} {X Y bd : Nat → Int32} {hi rn : Int32} (hM : MK σ m X Y bd hi rn) {nr nb ns np nn nt na dy : Nat} {t : xT} (hK : OK X nr nb t ns np nn nt na dy) (v : Int32) (o : Int32) : CI G yX7_tears cX7_tears 8 (some .int) 5 0 0 [.ref m, .int v, .int o] σ (fun z σ1 => z = v_tears X nr v o ∧ MK σ1 m X Y bd hi rn ∧ Off m σ σ1) := by
  refine Met.ofX (by decide +kernel) (Nat.le_of_ble_eq_true rfl) (fun μ Xc hQ hnm => ?_)
  have Xc : xC G μ cX7_tears 8 RX7 (some .int) 5 0 0 := Xc
  obtain ⟨F, T, A, hP, e1, e2, e3, e4, e5⟩ := hM
  subst e1 e2 e3 e4 e5
  obtain ⟨hG, hT, hS, hPl, hNo, hTa, hA, hJ, hR, hD⟩ := id hK
  have hr4 := hG.r4
  have hb7 := hG.b7
  have hs6 := hS.1
  have hp8 := hPl.1
  have hn8 := hNo.1
  have ht100 := hTa.1
  have ha5 := hA.1
  have hd9 := hD.1
  show Ev G μ 8 0 0 0 [(0, .ref m), (1, .int v), (2, .int o)] [] σ
  refine e_aload_n (pc := 0) Xc (dT hX7_tears 0 rfl) 0 rfl ?_
  refine e_iload_n (pc := 1) Xc (dT hX7_tears 1 rfl) 1 rfl ?_
  refine cl_X7_165 (pc := 2) (k := 0) (n := 0) (S := []) Xc hP.o (c_isReader hP hG v) (dT hX7_tears 2 rfl) rfl (Nat.le_of_ble_eq_true rfl) (Nat.le_of_ble_eq_true rfl) (Nat.le_of_ble_eq_true rfl) rfl (Nat.le_of_ble_eq_true rfl) (fun r1 σ2 hq3 => ?_)
  obtain ⟨r1e, r1s⟩ := hq3
  have r1e := r1e.symm; subst r1e; have r1s := r1s.symm; subst r1s
  refine e_if_eq (tgt := 16) (pc := 5) Xc (dT hX7_tears 3 rfl) rfl (fun c5 => ?_) (fun c5 => ?_)
  · skip
    refine e_iconst (v := -1) (pc := 16) Xc (dT hX7_tears 8 rfl) rfl ?_
    refine e_iret (pc := 17) Xc hQ (dT hX7_tears 9 rfl) (Nat.le_refl _) (Nat.le_refl _) ?_
    have hz : v_tears (A 1) nr v o = (-1) := by
      try simp only [bI_0, bI_1, Bool.not_eq_true, Bool.not_eq_false] at c5
      first | (simp [v_tears, c5]; done) | (clear hK hG hT hS hPl hNo hTa hA hJ hR hD hQ Xc; simp_all [v_tears]; done)
    exact ⟨hz.symm, ⟨_, _, _, hP, rfl, rfl, rfl, rfl, rfl⟩, Off.rf⟩
  · skip
    obtain ⟨q, hq, rfl⟩ := inF_nat (v := v) (n := nr) (by omega) (by simpa [bI_0, bI_1] using c5)
    have hc_q : cl (nI q) = q := cl_nI (by omega)
    refine e_aload_n (pc := 8) Xc (dT hX7_tears 4 rfl) 0 rfl ?_
    refine e_iload_n (pc := 9) Xc (dT hX7_tears 5 rfl) 2 rfl ?_
    refine cl_X7_165 (pc := 10) (k := 0) (n := 0) (S := []) Xc hP.o (c_isReader hP hG o) (dT hX7_tears 6 rfl) rfl (Nat.le_of_ble_eq_true rfl) (Nat.le_of_ble_eq_true rfl) (Nat.le_of_ble_eq_true rfl) rfl (Nat.le_of_ble_eq_true rfl) (fun r4 σ5 hq6 => ?_)
    obtain ⟨r4e, r4s⟩ := hq6
    have r4e := r4e.symm; subst r4e; have r4s := r4s.symm; subst r4s
    refine e_if_ne (tgt := 18) (pc := 13) Xc (dT hX7_tears 7 rfl) rfl (fun c13 => ?_) (fun c13 => ?_)
    · skip
      obtain ⟨p, hp, rfl⟩ := inF_nat (v := o) (n := nr) (by omega) (by simpa [bI_0, bI_1] using c13)
      have hc_p : cl (nI p) = p := cl_nI (by omega)
      refine e_iload_n (pc := 18) Xc (dT hX7_tears 10 rfl) 1 rfl ?_
      refine e_iload_n (pc := 19) Xc (dT hX7_tears 11 rfl) 2 rfl ?_
      refine e_icmp_neN (x := q) (y := p) (tgt := 26) (pc := 20) Xc (dT hX7_tears 12 rfl) rfl (by omega) (by omega) (fun c20 => ?_) (fun c20 => ?_)
      · skip
        have hqp_ : ¬ nI q = nI p := by rw [nI_eq (by omega) (by omega)]; exact c20
        refine e_aload_n (pc := 26) Xc (dT hX7_tears 15 rfl) 0 rfl ?_
        refine gf_X7_9 (pc := 27) Xc (dT hX7_tears 16 rfl) hP.o rfl ?_
        refine e_iconst (v := 1) (pc := 30) Xc (dT hX7_tears 17 rfl) rfl ?_
        refine e_iload_n (pc := 31) Xc (dT hX7_tears 18 rfl) 1 rfl ?_
        refine e_iaddN (a := 1) (b := q) (pc := 32) Xc (dT hX7_tears 19 rfl) ?_
        refine e_ialdN (pc := 33) Xc (dT hX7_tears 20 rfl) hP.a1 (by decide) rfl (1 + q) rfl (by omega) (by decide) ?_
        refine e_istore_n (L' := [(3, .int (A 1 (1 + q))), (0, .ref m), (1, .int (nI q)), (2, .int (nI p))]) (pc := 34) Xc (dT hX7_tears 21 rfl) (by decide) rfl ?_
        refine e_aload_n (pc := 35) Xc (dT hX7_tears 22 rfl) 1 rfl ?_
        refine gf_X7_9 (pc := 36) Xc (dT hX7_tears 23 rfl) hP.o rfl ?_
        refine e_iconst (v := 1) (pc := 39) Xc (dT hX7_tears 24 rfl) rfl ?_
        refine e_iload_n (pc := 40) Xc (dT hX7_tears 25 rfl) 3 rfl ?_
        refine e_iaddN (a := 1) (b := p) (pc := 41) Xc (dT hX7_tears 26 rfl) ?_
        refine e_ialdN (pc := 42) Xc (dT hX7_tears 27 rfl) hP.a1 (by decide) rfl (1 + p) rfl (by omega) (by decide) ?_
        refine e_istore (L' := [(4, .int (A 1 (1 + p))), (3, .int (A 1 (1 + q))), (0, .ref m), (1, .int (nI q)), (2, .int (nI p))]) (pc := 43) Xc (dT hX7_tears 28 rfl) (by decide) rfl ?_
        refine e_iload_n (pc := 45) Xc (dT hX7_tears 29 rfl) 1 rfl ?_
        refine e_iconst (v := -1) (pc := 46) Xc (dT hX7_tears 30 rfl) rfl ?_
        refine e_icmp_eq (tgt := 56) (pc := 47) Xc (dT hX7_tears 31 rfl) rfl (fun c47 => ?_) (fun c47 => ?_)
        · skip
          refine e_bipush (v := -5) (pc := 56) Xc (dT hX7_tears 35 rfl) rfl ?_
          refine e_iret (pc := 58) Xc hQ (dT hX7_tears 36 rfl) (Nat.le_refl _) (Nat.le_refl _) ?_
          have hz : v_tears (A 1) nr (nI q) (nI p) = (-5) := by
            try simp only [bI_0, bI_1, Bool.not_eq_true, Bool.not_eq_false] at c5 c13 c20 c47
            first | (simp [v_tears, c5, c13, c20, c47, hc_q, hc_p, hqp_]; done) | (clear hK hG hT hS hPl hNo hTa hA hJ hR hD hQ Xc; simp_all [v_tears]; done)
          exact ⟨hz.symm, ⟨_, _, _, hP, rfl, rfl, rfl, rfl, rfl⟩, Off.rf⟩
        · skip
          obtain ⟨h_, h_l, h_e⟩ := hG.has (r := q) (by omega) c47
          have hc_h_ : cl (nI h_) = h_ := cl_nI (by omega)
          have hm_h_ : ¬ nI h_ = -1 := nI_nm1 (by omega)
          refine e_iload (pc := 50) Xc (dT hX7_tears 32 rfl) 0 rfl ?_
          refine e_iconst (v := -1) (pc := 52) Xc (dT hX7_tears 33 rfl) rfl ?_
          refine e_icmp_ne (tgt := 59) (pc := 53) Xc (dT hX7_tears 34 rfl) rfl (fun c53 => ?_) (fun c53 => ?_)
          · skip
            obtain ⟨g_, g_l, g_e⟩ := hG.has (r := p) (by omega) c53
            have hc_g_ : cl (nI g_) = g_ := cl_nI (by omega)
            have hm_g_ : ¬ nI g_ = -1 := nI_nm1 (by omega)
            refine e_aload_n (pc := 59) Xc (dT hX7_tears 37 rfl) 2 rfl ?_
            refine cl_X7_202 (pc := 60) (k := 0) (n := 0) (S := []) Xc hP.o (c_keeps hP) (dT hX7_tears 38 rfl) rfl (Nat.le_of_ble_eq_true rfl) (Nat.le_of_ble_eq_true rfl) (Nat.le_of_ble_eq_true rfl) rfl (Nat.le_of_ble_eq_true rfl) (fun σ8 hq9 => ?_)
            obtain ⟨fr, hP10, hf0, ho11⟩ := hq9
            obtain ⟨B, hP10, b1, b2, b11, hf⟩ : ∃ B, PX7 σ8 m F T B ∧ A 1 = B 1 ∧ A 2 = B 2 ∧ A 11 = B 11 ∧ ∀ j, j < 12 → B 3 j = B 1 j := ⟨_, hP10, rfl, rfl, rfl, hf0⟩
            rw [b1] at hK
            rw [b1, b2, b11] at hQ
            try simp only [b1] at *
            obtain ⟨hG, hT, hS, hPl, hNo, hTa, hA, hJ, hR, hD⟩ := id hK
            refine e_bipush (v := -5) (pc := 63) Xc (dT hX7_tears 39 rfl) rfl ?_
            refine e_istore (L' := [(5, .int (-5)), (4, .int (B 1 (1 + p))), (3, .int (B 1 (1 + q))), (0, .ref m), (1, .int (nI q)), (2, .int (nI p))]) (pc := 65) Xc (dT hX7_tears 40 rfl) (by decide) rfl ?_
            refine e_iconst (v := 0) (pc := 67) Xc (dT hX7_tears 41 rfl) rfl ?_
            refine e_istore (L' := [(6, .int 0), (5, .int (-5)), (4, .int (B 1 (1 + p))), (3, .int (B 1 (1 + q))), (0, .ref m), (1, .int (nI q)), (2, .int (nI p))]) (pc := 68) Xc (dT hX7_tears 42 rfl) (by decide) rfl ?_
            have lp70 : ∀ (n70 : Nat) (n_ : Nat) (fd_ : Int32) (X1 : Nat → Int32) (σ2 : xS), 21 - n_ < n70 → (n_ ≤ 21) → (fd_ = fndF (tearP (B 1) q h_ g_) n_) → (X1 = pasN (B 1) q 0 n_) → (Gd X1 nr nb) → (Hd X1 t) → (PX7 σ2 m F T (upA B 1 X1)) → (Off m σ σ2) → Ev G μ 8 0 0 70 [(0, .ref m), (1, .int (nI q)), (2, .int (nI p)), (3, .int (B 1 (1 + q))), (4, .int (B 1 (1 + p))), (5, .int fd_), (6, .int (nI n_))] [] σ2 := by
              intro n70
              induction n70 with
              | zero => intro n_ fd_ X1 σ2 hn; exact absurd hn (Nat.not_lt_zero _)
              | succ n70 ih70 =>
                intro n_ fd_ X1 σ2 hn70 hn_ hfd_ hX_ hG1 hT1 hp ho
                refine e_iload (pc := 70) Xc (dT hX7_tears 43 rfl) 6 rfl ?_
                refine e_bipush (v := 20) (pc := 72) Xc (dT hX7_tears 44 rfl) rfl ?_
                refine e_icmp_gtN (x := n_) (y := 20) (tgt := 140) (pc := 74) Xc (dT hX7_tears 45 rfl) rfl (by omega) (by omega) (fun c74 => ?_) (fun c74 => ?_)
                · skip
                  have hne_ : n_ = 21 := by omega
                  subst hne_
                  have hfin_ : fndF (tearP (B 1) q h_ g_) 21 = fd_ := hfd_.symm
                  refine e_aload_n (pc := 140) Xc (dT hX7_tears 80 rfl) 0 rfl ?_
                  refine cl_X7_205 (pc := 141) (k := 0) (n := 0) (S := []) Xc hp.o (c_goesBack hp) (dT hX7_tears 81 rfl) rfl (Nat.le_of_ble_eq_true rfl) (Nat.le_of_ble_eq_true rfl) (Nat.le_of_ble_eq_true rfl) rfl (Nat.le_of_ble_eq_true rfl) (fun σ13 hq14 => ?_)
                  obtain ⟨hP15, ho16⟩ := hq14
                  have hP15 : PX7 σ13 m F T (upA B 1 (backF X1 (B 3))) := by rw [upA_2] at hP15; exact hP15
                  refine e_iload (pc := 144) Xc (dT hX7_tears 82 rfl) 5 rfl ?_
                  refine e_iret (pc := 146) Xc hQ (dT hX7_tears 83 rfl) (Nat.le_refl _) (Nat.le_refl _) ?_
                  have hz : v_tears (B 1) nr (nI q) (nI p) = fd_ := by
                    try simp only [bI_0, bI_1, Bool.not_eq_true, Bool.not_eq_false] at c5 c13 c20 c74
                    first | (simp [v_tears, c5, c13, c20, c74, hc_q, hc_p, hqp_, hc_h_, h_e, hm_h_, hc_g_, g_e, hm_g_, hfin_]; done) | (clear hK hG hT hS hPl hNo hTa hA hJ hR hD hQ Xc; simp_all [v_tears]; done)
                  exact ⟨hz.symm, ⟨_, _, _, hP15, (back_hi hf (fun j hj => by rw [hX_]; exact pasN_hi hG (by omega) _ _ hj)), rfl, rfl, rfl, rfl⟩, (ho.tr ho16)⟩
                · skip
                  refine e_iload (pc := 77) Xc (dT hX7_tears 46 rfl) 5 rfl ?_
                  refine e_bipush (v := -5) (pc := 79) Xc (dT hX7_tears 47 rfl) rfl ?_
                  refine e_icmp_ne (tgt := 140) (pc := 81) Xc (dT hX7_tears 48 rfl) rfl (fun c81 => ?_) (fun c81 => ?_)
                  · skip
                    have hfin_ : fndF (tearP (B 1) q h_ g_) 21 = fd_ := (fnd_mono (by omega) (fun e_ => c81 (hfd_.trans e_)) hn_).trans hfd_.symm
                    refine e_aload_n (pc := 140) Xc (dT hX7_tears 80 rfl) 0 rfl ?_
                    refine cl_X7_205 (pc := 141) (k := 0) (n := 0) (S := []) Xc hp.o (c_goesBack hp) (dT hX7_tears 81 rfl) rfl (Nat.le_of_ble_eq_true rfl) (Nat.le_of_ble_eq_true rfl) (Nat.le_of_ble_eq_true rfl) rfl (Nat.le_of_ble_eq_true rfl) (fun σ18 hq19 => ?_)
                    obtain ⟨hP20, ho21⟩ := hq19
                    have hP20 : PX7 σ18 m F T (upA B 1 (backF X1 (B 3))) := by rw [upA_2] at hP20; exact hP20
                    refine e_iload (pc := 144) Xc (dT hX7_tears 82 rfl) 5 rfl ?_
                    refine e_iret (pc := 146) Xc hQ (dT hX7_tears 83 rfl) (Nat.le_refl _) (Nat.le_refl _) ?_
                    have hz : v_tears (B 1) nr (nI q) (nI p) = fd_ := by
                      try simp only [bI_0, bI_1, Bool.not_eq_true, Bool.not_eq_false] at c5 c13 c20 c74 c81
                      first | (simp [v_tears, c5, c13, c20, c74, c81, hc_q, hc_p, hqp_, hc_h_, h_e, hm_h_, hc_g_, g_e, hm_g_, hfin_]; done) | (clear hK hG hT hS hPl hNo hTa hA hJ hR hD hQ Xc; simp_all [v_tears]; done)
                    exact ⟨hz.symm, ⟨_, _, _, hP20, (back_hi hf (fun j hj => by rw [hX_]; exact pasN_hi hG (by omega) _ _ hj)), rfl, rfl, rfl, rfl⟩, (ho.tr ho21)⟩
                  · skip
                    refine e_aload_n (pc := 84) Xc (dT hX7_tears 49 rfl) 0 rfl ?_
                    refine gf_X7_9 (pc := 85) Xc (dT hX7_tears 50 rfl) hp.o rfl ?_
                    refine e_iconst (v := 5) (pc := 88) Xc (dT hX7_tears 51 rfl) rfl ?_
                    refine e_iload (pc := 89) Xc (dT hX7_tears 52 rfl) 4 rfl ?_
                    refine e_val (y := nI g_) g_e ?_
                    refine e_iaddN (a := 5) (b := g_) (pc := 91) Xc (dT hX7_tears 53 rfl) ?_
                    refine e_ialdN (pc := 92) Xc (dT hX7_tears 54 rfl) hp.a1 (by decide) rfl (5 + g_) rfl (by omega) (by decide) ?_
                    refine e_val (y := X1 (5 + g_)) rfl ?_
                    refine e_aload_n (pc := 93) Xc (dT hX7_tears 55 rfl) 0 rfl ?_
                    refine gf_X7_9 (pc := 94) Xc (dT hX7_tears 56 rfl) hp.o rfl ?_
                    refine e_iconst (v := 5) (pc := 97) Xc (dT hX7_tears 57 rfl) rfl ?_
                    refine e_iload_n (pc := 98) Xc (dT hX7_tears 58 rfl) 3 rfl ?_
                    refine e_val (y := nI h_) h_e ?_
                    refine e_iaddN (a := 5) (b := h_) (pc := 99) Xc (dT hX7_tears 59 rfl) ?_
                    refine e_ialdN (pc := 100) Xc (dT hX7_tears 60 rfl) hp.a1 (by decide) rfl (5 + h_) rfl (by omega) (by decide) ?_
                    refine e_val (y := X1 (5 + h_)) rfl ?_
                    refine e_isub (pc := 101) Xc (dT hX7_tears 61 rfl) ?_
                    refine e_istore (L' := [(7, .int ((X1 (5 + g_)) - (X1 (5 + h_)))), (0, .ref m), (1, .int (nI q)), (2, .int (nI p)), (3, .int (B 1 (1 + q))), (4, .int (B 1 (1 + p))), (5, .int fd_), (6, .int (nI n_))]) (pc := 102) Xc (dT hX7_tears 62 rfl) (by decide) rfl ?_
                    refine e_iload (pc := 104) Xc (dT hX7_tears 63 rfl) 0 rfl ?_
                    refine e_iconst (v := 1) (pc := 106) Xc (dT hX7_tears 64 rfl) rfl ?_
                    refine e_icmp_lt (tgt := 124) (pc := 107) Xc (dT hX7_tears 65 rfl) rfl (fun c107 => ?_) (fun c107 => ?_)
                    · skip
                      refine e_bipush (v := -5) (pc := 124) Xc (dT hX7_tears 72 rfl) rfl ?_
                      refine e_istore (L' := [(5, .int (-5)), (7, .int ((X1 (5 + g_)) - (X1 (5 + h_)))), (0, .ref m), (1, .int (nI q)), (2, .int (nI p)), (3, .int (B 1 (1 + q))), (4, .int (B 1 (1 + p))), (6, .int (nI n_))]) (pc := 126) Xc (dT hX7_tears 73 rfl) (by decide) rfl ?_
                      refine e_aload_n (pc := 128) Xc (dT hX7_tears 74 rfl) 2 rfl ?_
                      refine e_iload_n (pc := 129) Xc (dT hX7_tears 75 rfl) 3 rfl ?_
                      refine e_iconst (v := 0) (pc := 130) Xc (dT hX7_tears 76 rfl) rfl ?_
                      refine cl_X7_195 (pc := 131) (k := 0) (n := 0) (S := []) Xc hp.o (c_pastes hp hG1 q (by omega) 0) (dT hX7_tears 77 rfl) rfl (Nat.le_of_ble_eq_true rfl) (Nat.le_of_ble_eq_true rfl) (Nat.le_of_ble_eq_true rfl) rfl (Nat.le_of_ble_eq_true rfl) (fun σ23 hq24 => ?_)
                      obtain ⟨hP25, ho26⟩ := hq24
                      have hP25 : PX7 σ23 m F T (upA B 1 (pastF X1 q 0)) := by rw [upA_2] at hP25; exact hP25
                      refine e_iincN (a := n_) (b := 1) (L' := [(6, .int (nI (n_ + 1))), (5, .int (-5)), (7, .int ((X1 (5 + g_)) - (X1 (5 + h_)))), (0, .ref m), (1, .int (nI q)), (2, .int (nI p)), (3, .int (B 1 (1 + q))), (4, .int (B 1 (1 + p)))]) (pc := 134) Xc (dT hX7_tears 78 rfl) 7 rfl rfl (by decide) rfl ?_
                      refine e_goto (tgt := 70) (pc := 137) Xc (dT hX7_tears 79 rfl) rfl ?_
                      have c107_ : ¬ 1 ≤ pasN (B 1) q 0 n_ (5 + g_) - pasN (B 1) q 0 n_ (5 + h_) := by rw [← hX_]; exact Int32.not_le.mpr c107
                      refine Ev.pick (L' := [(0, .ref m), (1, .int (nI q)), (2, .int (nI p)), (3, .int (B 1 (1 + q))), (4, .int (B 1 (1 + p))), (5, .int (-5)), (6, .int (nI (n_ + 1)))]) [3, 4, 5, 6, 7, 1, 0] rfl ?_
                      exact ih70 (n_ + 1) (-5) (pastF X1 q 0) σ23 (by omega) (by omega) (by rw [fnd_step (by omega) (hfd_.symm.trans c81)]; show _ = if tearP (B 1) q h_ g_ n_ = true then nI n_ else -5; rw [tearP, decide_eq_false c107_]; rfl) (by rw [hX_]; rfl) (Gd.past hG1 (by omega)) (Hd.past hT1 hG1 (by omega)) hP25 (ho.tr ho26)
                    · skip
                      refine e_iload (pc := 110) Xc (dT hX7_tears 66 rfl) 0 rfl ?_
                      refine e_aload_n (pc := 112) Xc (dT hX7_tears 67 rfl) 1 rfl ?_
                      refine cl_X7_151 (pc := 113) (k := 0) (n := 0) (S := [.int ((X1 (5 + g_)) - (X1 (5 + h_)))]) Xc hp.o (c_gapNow hp hG1) (dT hX7_tears 68 rfl) rfl (Nat.le_of_ble_eq_true rfl) (Nat.le_of_ble_eq_true rfl) (Nat.le_of_ble_eq_true rfl) rfl (Nat.le_of_ble_eq_true rfl) (fun r27 σ28 hq29 => ?_)
                      obtain ⟨r27e, r27s⟩ := hq29
                      have r27e := r27e.symm; subst r27e; have r27s := r27s.symm; subst r27s
                      refine e_val (y := gapF X1) rfl ?_
                      refine e_icmp_lt (tgt := 124) (pc := 116) Xc (dT hX7_tears 69 rfl) rfl (fun c116 => ?_) (fun c116 => ?_)
                      · skip
                        refine e_bipush (v := -5) (pc := 124) Xc (dT hX7_tears 72 rfl) rfl ?_
                        refine e_istore (L' := [(5, .int (-5)), (7, .int ((X1 (5 + g_)) - (X1 (5 + h_)))), (0, .ref m), (1, .int (nI q)), (2, .int (nI p)), (3, .int (B 1 (1 + q))), (4, .int (B 1 (1 + p))), (6, .int (nI n_))]) (pc := 126) Xc (dT hX7_tears 73 rfl) (by decide) rfl ?_
                        refine e_aload_n (pc := 128) Xc (dT hX7_tears 74 rfl) 2 rfl ?_
                        refine e_iload_n (pc := 129) Xc (dT hX7_tears 75 rfl) 3 rfl ?_
                        refine e_iconst (v := 0) (pc := 130) Xc (dT hX7_tears 76 rfl) rfl ?_
                        refine cl_X7_195 (pc := 131) (k := 0) (n := 0) (S := []) Xc hp.o (c_pastes hp hG1 q (by omega) 0) (dT hX7_tears 77 rfl) rfl (Nat.le_of_ble_eq_true rfl) (Nat.le_of_ble_eq_true rfl) (Nat.le_of_ble_eq_true rfl) rfl (Nat.le_of_ble_eq_true rfl) (fun σ31 hq32 => ?_)
                        obtain ⟨hP33, ho34⟩ := hq32
                        have hP33 : PX7 σ31 m F T (upA B 1 (pastF X1 q 0)) := by rw [upA_2] at hP33; exact hP33
                        refine e_iincN (a := n_) (b := 1) (L' := [(6, .int (nI (n_ + 1))), (5, .int (-5)), (7, .int ((X1 (5 + g_)) - (X1 (5 + h_)))), (0, .ref m), (1, .int (nI q)), (2, .int (nI p)), (3, .int (B 1 (1 + q))), (4, .int (B 1 (1 + p)))]) (pc := 134) Xc (dT hX7_tears 78 rfl) 7 rfl rfl (by decide) rfl ?_
                        refine e_goto (tgt := 70) (pc := 137) Xc (dT hX7_tears 79 rfl) rfl ?_
                        have c107_ : 1 ≤ pasN (B 1) q 0 n_ (5 + g_) - pasN (B 1) q 0 n_ (5 + h_) := by rw [← hX_]; exact Int32.not_lt.mp c107
                        have c116_ : ¬ gapF (B 1) ≤ pasN (B 1) q 0 n_ (5 + g_) - pasN (B 1) q 0 n_ (5 + h_) := by rw [← gapF_hi (pasN_hi (is := 0) hG hq n_), ← hX_]; exact Int32.not_le.mpr c116
                        refine Ev.pick (L' := [(0, .ref m), (1, .int (nI q)), (2, .int (nI p)), (3, .int (B 1 (1 + q))), (4, .int (B 1 (1 + p))), (5, .int (-5)), (6, .int (nI (n_ + 1)))]) [3, 4, 5, 6, 7, 1, 0] rfl ?_
                        exact ih70 (n_ + 1) (-5) (pastF X1 q 0) σ31 (by omega) (by omega) (by rw [fnd_step (by omega) (hfd_.symm.trans c81)]; show _ = if tearP (B 1) q h_ g_ n_ = true then nI n_ else -5; rw [tearP, decide_eq_true c107_, decide_eq_false c116_]; rfl) (by rw [hX_]; rfl) (Gd.past hG1 (by omega)) (Hd.past hT1 hG1 (by omega)) hP33 (ho.tr ho34)
                      · skip
                        refine e_iload (pc := 119) Xc (dT hX7_tears 70 rfl) 7 rfl ?_
                        refine e_goto (tgt := 126) (pc := 121) Xc (dT hX7_tears 71 rfl) rfl ?_
                        refine e_istore (L' := [(5, .int (nI n_)), (7, .int ((X1 (5 + g_)) - (X1 (5 + h_)))), (0, .ref m), (1, .int (nI q)), (2, .int (nI p)), (3, .int (B 1 (1 + q))), (4, .int (B 1 (1 + p))), (6, .int (nI n_))]) (pc := 126) Xc (dT hX7_tears 73 rfl) (by decide) rfl ?_
                        refine e_aload_n (pc := 128) Xc (dT hX7_tears 74 rfl) 2 rfl ?_
                        refine e_iload_n (pc := 129) Xc (dT hX7_tears 75 rfl) 3 rfl ?_
                        refine e_iconst (v := 0) (pc := 130) Xc (dT hX7_tears 76 rfl) rfl ?_
                        refine cl_X7_195 (pc := 131) (k := 0) (n := 0) (S := []) Xc hp.o (c_pastes hp hG1 q (by omega) 0) (dT hX7_tears 77 rfl) rfl (Nat.le_of_ble_eq_true rfl) (Nat.le_of_ble_eq_true rfl) (Nat.le_of_ble_eq_true rfl) rfl (Nat.le_of_ble_eq_true rfl) (fun σ36 hq37 => ?_)
                        obtain ⟨hP38, ho39⟩ := hq37
                        have hP38 : PX7 σ36 m F T (upA B 1 (pastF X1 q 0)) := by rw [upA_2] at hP38; exact hP38
                        refine e_iincN (a := n_) (b := 1) (L' := [(6, .int (nI (n_ + 1))), (5, .int (nI n_)), (7, .int ((X1 (5 + g_)) - (X1 (5 + h_)))), (0, .ref m), (1, .int (nI q)), (2, .int (nI p)), (3, .int (B 1 (1 + q))), (4, .int (B 1 (1 + p)))]) (pc := 134) Xc (dT hX7_tears 78 rfl) 7 rfl rfl (by decide) rfl ?_
                        refine e_goto (tgt := 70) (pc := 137) Xc (dT hX7_tears 79 rfl) rfl ?_
                        have c107_ : 1 ≤ pasN (B 1) q 0 n_ (5 + g_) - pasN (B 1) q 0 n_ (5 + h_) := by rw [← hX_]; exact Int32.not_lt.mp c107
                        have c116_ : gapF (B 1) ≤ pasN (B 1) q 0 n_ (5 + g_) - pasN (B 1) q 0 n_ (5 + h_) := by rw [← gapF_hi (pasN_hi (is := 0) hG hq n_), ← hX_]; exact Int32.not_lt.mp c116
                        refine Ev.pick (L' := [(0, .ref m), (1, .int (nI q)), (2, .int (nI p)), (3, .int (B 1 (1 + q))), (4, .int (B 1 (1 + p))), (5, .int (nI n_)), (6, .int (nI (n_ + 1)))]) [3, 4, 5, 6, 7, 1, 0] rfl ?_
                        exact ih70 (n_ + 1) (nI n_) (pastF X1 q 0) σ36 (by omega) (by omega) (by rw [fnd_step (by omega) (hfd_.symm.trans c81)]; show _ = if tearP (B 1) q h_ g_ n_ = true then nI n_ else -5; rw [tearP, decide_eq_true c107_, decide_eq_true c116_]; rfl) (by rw [hX_]; rfl) (Gd.past hG1 (by omega)) (Hd.past hT1 hG1 (by omega)) hP38 (ho.tr ho39)
            refine Ev.pick (L' := [(0, .ref m), (1, .int (nI q)), (2, .int (nI p)), (3, .int (B 1 (1 + q))), (4, .int (B 1 (1 + p))), (5, .int (-5)), (6, .int 0)]) [4, 5, 6, 3, 2, 1, 0] rfl ?_
            exact lp70 ((21 - 0) + 1) 0 (-5) (B 1) σ8 (Nat.lt_succ_self _) (Nat.zero_le _) rfl rfl hG hT (by rw [upA_id]; exact hP10) ho11
          · skip
            refine e_bipush (v := -5) (pc := 56) Xc (dT hX7_tears 35 rfl) rfl ?_
            refine e_iret (pc := 58) Xc hQ (dT hX7_tears 36 rfl) (Nat.le_refl _) (Nat.le_refl _) ?_
            have hz : v_tears (A 1) nr (nI q) (nI p) = (-5) := by
              try simp only [bI_0, bI_1, Bool.not_eq_true, Bool.not_eq_false] at c5 c13 c20 c47 c53
              first | (simp [v_tears, c5, c13, c20, c47, c53, hc_q, hc_p, hqp_, hc_h_, h_e, hm_h_]; done) | (clear hK hG hT hS hPl hNo hTa hA hJ hR hD hQ Xc; simp_all [v_tears]; done)
            exact ⟨hz.symm, ⟨_, _, _, hP, rfl, rfl, rfl, rfl, rfl⟩, Off.rf⟩
      · skip
        refine e_bipush (v := -2) (pc := 23) Xc (dT hX7_tears 13 rfl) rfl ?_
        refine e_iret (pc := 25) Xc hQ (dT hX7_tears 14 rfl) (Nat.le_refl _) (Nat.le_refl _) ?_
        have hz : v_tears (A 1) nr (nI q) (nI p) = (-2) := by
          try simp only [bI_0, bI_1, Bool.not_eq_true, Bool.not_eq_false] at c5 c13 c20
          first | (simp [v_tears, c5, c13, c20, hc_q, hc_p]; done) | (clear hK hG hT hS hPl hNo hTa hA hJ hR hD hQ Xc; simp_all [v_tears]; done)
        exact ⟨hz.symm, ⟨_, _, _, hP, rfl, rfl, rfl, rfl, rfl⟩, Off.rf⟩
    · skip
      refine e_iconst (v := -1) (pc := 16) Xc (dT hX7_tears 8 rfl) rfl ?_
      refine e_iret (pc := 17) Xc hQ (dT hX7_tears 9 rfl) (Nat.le_refl _) (Nat.le_refl _) ?_
      have hz : v_tears (A 1) nr (nI q) o = (-1) := by
        try simp only [bI_0, bI_1, Bool.not_eq_true, Bool.not_eq_false] at c5 c13
        first | (simp [v_tears, c5, c13, hc_q]; done) | (clear hK hG hT hS hPl hNo hTa hA hJ hR hD hQ Xc; simp_all [v_tears]; done)
      exact ⟨hz.symm, ⟨_, _, _, hP, rfl, rfl, rfl, rfl, rfl⟩, Off.rf⟩
set_option maxRecDepth 100000 in
set_option maxHeartbeats 4000000 in
theorem p_swells {G : xG} {σ : xS} {m : Nat} {X Y bd : Nat → Int32} {hi rn : Int32} (hM : MK σ m X Y bd hi rn) {nr nb ns np nn nt na dy : Nat} {t : xT} (hK : OK X nr nb t ns np nn nt na dy) (n : Int32) : CI G yX7_swells cX7_swells 4 (some .int) 7 0 0 [.ref m, .int n] σ (fun z σ1 => z = v_swells X t nr nb n ∧ MK σ1 m X Y bd hi rn ∧ Off m σ σ1) := by
  refine Met.ofX (by decide +kernel) (Nat.le_of_ble_eq_true rfl) (fun μ Xc hQ hnm => ?_)
  have Xc : xC G μ cX7_swells 4 RX7 (some .int) 7 0 0 := Xc
  obtain ⟨F, T, A, hP, e1, e2, e3, e4, e5⟩ := hM
  subst e1 e2 e3 e4 e5
  obtain ⟨hG, hT, hS, hPl, hNo, hTa, hA, hJ, hR, hD⟩ := id hK
  have hr4 := hG.r4
  have hb7 := hG.b7
  have hs6 := hS.1
  have hp8 := hPl.1
  have hn8 := hNo.1
  have ht100 := hTa.1
  have ha5 := hA.1
  have hd9 := hD.1
  show Ev G μ 4 0 0 0 [(0, .ref m), (1, .int n)] [] σ
  refine e_iload_n (pc := 0) Xc (dT hX7_swells 0 rfl) 1 rfl ?_
  refine e_iconst (v := 0) (pc := 1) Xc (dT hX7_swells 1 rfl) rfl ?_
  refine e_bipush (v := 40) (pc := 2) Xc (dT hX7_swells 2 rfl) rfl ?_
  refine cl_X7_50 (pc := 4) (k := 0) (n := 0) (S := []) Xc (c_in n 0 40) (dT hX7_swells 3 rfl) rfl (Nat.le_of_ble_eq_true rfl) (Nat.le_of_ble_eq_true rfl) (Nat.le_of_ble_eq_true rfl) rfl (Nat.le_of_ble_eq_true rfl) (fun r1 σ2 hq3 => ?_)
  obtain ⟨r1e, r1s⟩ := hq3
  have r1e := r1e.symm; subst r1e; have r1s := r1s.symm; subst r1s
  refine e_if_ne (tgt := 14) (pc := 7) Xc (dT hX7_swells 4 rfl) rfl (fun c7 => ?_) (fun c7 => ?_)
  · skip
    obtain ⟨kn_, hkn_, rfl⟩ := in_N (w := n) (n := 40) (by omega) (by have hcc := c7; simp only [bI_0, bI_1, Bool.not_eq_true, Bool.not_eq_false] at hcc; exact hcc)
    have hc_kn_ : cl (nI kn_) = kn_ := cl_nI (by omega)
    refine e_aload_n (pc := 14) Xc (dT hX7_swells 7 rfl) 0 rfl ?_
    refine cl_X7_266 (pc := 15) (k := 0) (n := 0) (S := []) Xc hP.o (c_shelfThick hP hG) (dT hX7_swells 8 rfl) rfl (Nat.le_of_ble_eq_true rfl) (Nat.le_of_ble_eq_true rfl) (Nat.le_of_ble_eq_true rfl) rfl (Nat.le_of_ble_eq_true rfl) (fun r4 σ5 hq6 => ?_)
    obtain ⟨r4e, r4s⟩ := hq6
    have r4e := r4e.symm; subst r4e; have r4s := r4s.symm; subst r4s
    refine e_istore_n (L' := [(2, .int (shThF (A 1) nr nb)), (0, .ref m), (1, .int (nI kn_))]) (pc := 18) Xc (dT hX7_swells 9 rfl) (by decide) rfl ?_
    refine e_aload_n (pc := 19) Xc (dT hX7_swells 10 rfl) 1 rfl ?_
    refine cl_X7_202 (pc := 20) (k := 0) (n := 0) (S := []) Xc hP.o (c_keeps hP) (dT hX7_swells 11 rfl) rfl (Nat.le_of_ble_eq_true rfl) (Nat.le_of_ble_eq_true rfl) (Nat.le_of_ble_eq_true rfl) rfl (Nat.le_of_ble_eq_true rfl) (fun σ8 hq9 => ?_)
    obtain ⟨fr, hP10, hf0, ho11⟩ := hq9
    obtain ⟨B, hP10, b1, b2, b11, hf⟩ : ∃ B, PX7 σ8 m F T B ∧ A 1 = B 1 ∧ A 2 = B 2 ∧ A 11 = B 11 ∧ ∀ j, j < 12 → B 3 j = B 1 j := ⟨_, hP10, rfl, rfl, rfl, hf0⟩
    rw [b1] at hK
    rw [b1, b2, b11] at hQ
    try simp only [b1] at *
    obtain ⟨hG, hT, hS, hPl, hNo, hTa, hA, hJ, hR, hD⟩ := id hK
    refine e_aload_n (pc := 23) Xc (dT hX7_swells 12 rfl) 1 rfl ?_
    refine e_iload_n (pc := 24) Xc (dT hX7_swells 13 rfl) 2 rfl ?_
    refine cl_X7_269 (pc := 25) (k := 0) (n := 0) (S := []) Xc hP10.o (c_goesOn hP10 hG hT kn_ (by omega)) (dT hX7_swells 14 rfl) rfl (Nat.le_of_ble_eq_true rfl) (Nat.le_of_ble_eq_true rfl) (Nat.le_of_ble_eq_true rfl) rfl (Nat.le_of_ble_eq_true rfl) (fun σ13 hq14 => ?_)
    obtain ⟨hP15, ho16⟩ := hq14
    refine e_aload_n (pc := 28) Xc (dT hX7_swells 15 rfl) 1 rfl ?_
    refine cl_X7_266 (pc := 29) (k := 0) (n := 0) (S := []) Xc hP15.o (c_shelfThick hP15 (days_ok hG hT kn_).1) (dT hX7_swells 16 rfl) rfl (Nat.le_of_ble_eq_true rfl) (Nat.le_of_ble_eq_true rfl) (Nat.le_of_ble_eq_true rfl) rfl (Nat.le_of_ble_eq_true rfl) (fun r17 σ18 hq19 => ?_)
    obtain ⟨r17e, r17s⟩ := hq19
    have r17e := r17e.symm; subst r17e; have r17s := r17s.symm; subst r17s
    refine e_val (y := shThF ((daysF (B 1) t nr nb kn_).2) nr nb) rfl ?_
    refine e_istore_n (L' := [(3, .int (shThF ((daysF (B 1) t nr nb kn_).2) nr nb)), (2, .int (shThF (B 1) nr nb)), (0, .ref m), (1, .int (nI kn_))]) (pc := 32) Xc (dT hX7_swells 17 rfl) (by decide) rfl ?_
    refine e_aload_n (pc := 33) Xc (dT hX7_swells 18 rfl) 2 rfl ?_
    refine cl_X7_205 (pc := 34) (k := 0) (n := 0) (S := []) Xc hP15.o (c_goesBack hP15) (dT hX7_swells 19 rfl) rfl (Nat.le_of_ble_eq_true rfl) (Nat.le_of_ble_eq_true rfl) (Nat.le_of_ble_eq_true rfl) rfl (Nat.le_of_ble_eq_true rfl) (fun σ21 hq22 => ?_)
    obtain ⟨hP23, ho24⟩ := hq22
    have hP23 : PX7 σ21 m F T (upA B 1 (backF ((daysF (B 1) t nr nb kn_).2) (B 3))) := by rw [upA_2] at hP23; exact hP23
    refine e_iload_n (pc := 37) Xc (dT hX7_swells 20 rfl) 0 rfl ?_
    refine e_iload_n (pc := 38) Xc (dT hX7_swells 21 rfl) 1 rfl ?_
    refine e_isub (pc := 39) Xc (dT hX7_swells 22 rfl) ?_
    refine e_iret (pc := 40) Xc hQ (dT hX7_swells 23 rfl) (Nat.le_refl _) (Nat.le_refl _) ?_
    have hz : v_swells (B 1) t nr nb (nI kn_) = (shThF ((daysF (B 1) t nr nb kn_).2) nr nb) - (shThF (B 1) nr nb) := by
      try simp only [bI_0, bI_1, Bool.not_eq_true, Bool.not_eq_false] at c7
      first | (simp [v_swells, c7, hc_kn_]; done) | (clear hK hG hT hS hPl hNo hTa hA hJ hR hD hQ Xc; simp_all [v_swells]; done)
    exact ⟨hz.symm, ⟨_, _, _, hP23, (back_hi hf (fun j hj => days_hi hr4 (by omega) _)), rfl, rfl, rfl, rfl⟩, ((ho11.tr ho16).tr ho24)⟩
  · skip
    refine e_sipush (v := -10002) (pc := 10) Xc (dT hX7_swells 5 rfl) rfl ?_
    refine e_iret (pc := 13) Xc hQ (dT hX7_swells 6 rfl) (Nat.le_refl _) (Nat.le_refl _) ?_
    have hz : v_swells (A 1) t nr nb n = (-10002) := by
      try simp only [bI_0, bI_1, Bool.not_eq_true, Bool.not_eq_false] at c7
      first | (simp [v_swells, c7]; done) | (clear hK hG hT hS hPl hNo hTa hA hJ hR hD hQ Xc; simp_all [v_swells]; done)
    exact ⟨hz.symm, ⟨_, _, _, hP, rfl, rfl, rfl, rfl, rfl⟩, Off.rf⟩
set_option maxRecDepth 100000 in
set_option maxHeartbeats 4000000 in
theorem p_see {G : xG} {σ : xS} {m : Nat} {X Y bd : Nat → Int32} {hi rn : Int32} (hM : MK σ m X Y bd hi rn) {nr nb ns np nn nt na dy : Nat} {t : xT} (hK : OK X nr nb t ns np nn nt na dy) (b : Int32) (d : Int32) (is : Int32) : CI G yX7_see cX7_see 4 (some .int) 2 0 0 [.ref m, .int b, .int d, .int is] σ (fun z σ1 => z = (v_see X nb ns b d is).1 ∧ MK σ1 m (v_see X nb ns b d is).2 Y bd hi rn ∧ Off m σ σ1) := by
  refine Met.ofX (by decide +kernel) (Nat.le_of_ble_eq_true rfl) (fun μ Xc hQ hnm => ?_)
  have Xc : xC G μ cX7_see 4 RX7 (some .int) 2 0 0 := Xc
  obtain ⟨F, T, A, hP, e1, e2, e3, e4, e5⟩ := hM
  subst e1 e2 e3 e4 e5
  obtain ⟨hG, hT, hS, hPl, hNo, hTa, hA, hJ, hR, hD⟩ := id hK
  have hr4 := hG.r4
  have hb7 := hG.b7
  have hs6 := hS.1
  have hp8 := hPl.1
  have hn8 := hNo.1
  have ht100 := hTa.1
  have ha5 := hA.1
  have hd9 := hD.1
  show Ev G μ 4 0 0 0 [(0, .ref m), (1, .int b), (2, .int d), (3, .int is)] [] σ
  refine e_iload_n (pc := 0) Xc (dT hX7_see 0 rfl) 1 rfl ?_
  refine e_iconst (v := -1) (pc := 1) Xc (dT hX7_see 1 rfl) rfl ?_
  refine e_icmp_ne (tgt := 15) (pc := 2) Xc (dT hX7_see 2 rfl) rfl (fun c2 => ?_) (fun c2 => ?_)
  · skip
    refine e_aload_n (pc := 15) Xc (dT hX7_see 10 rfl) 0 rfl ?_
    refine e_iload_n (pc := 16) Xc (dT hX7_see 11 rfl) 1 rfl ?_
    refine cl_X7_177 (pc := 17) (k := 0) (n := 0) (S := []) Xc hP.o (c_isBook hP hG b) (dT hX7_see 12 rfl) rfl (Nat.le_of_ble_eq_true rfl) (Nat.le_of_ble_eq_true rfl) (Nat.le_of_ble_eq_true rfl) rfl (Nat.le_of_ble_eq_true rfl) (fun r1 σ2 hq3 => ?_)
    obtain ⟨r1e, r1s⟩ := hq3
    have r1e := r1e.symm; subst r1e; have r1s := r1s.symm; subst r1s
    refine e_if_ne (tgt := 25) (pc := 20) Xc (dT hX7_see 13 rfl) rfl (fun c20 => ?_) (fun c20 => ?_)
    · skip
      refine e_iload_n (pc := 25) Xc (dT hX7_see 16 rfl) 2 rfl ?_
      refine e_iconst (v := 0) (pc := 26) Xc (dT hX7_see 17 rfl) rfl ?_
      refine e_bipush (v := 20) (pc := 27) Xc (dT hX7_see 18 rfl) rfl ?_
      refine cl_X7_50 (pc := 29) (k := 0) (n := 0) (S := []) Xc (c_in d 0 20) (dT hX7_see 19 rfl) rfl (Nat.le_of_ble_eq_true rfl) (Nat.le_of_ble_eq_true rfl) (Nat.le_of_ble_eq_true rfl) rfl (Nat.le_of_ble_eq_true rfl) (fun r4 σ5 hq6 => ?_)
      obtain ⟨r4e, r4s⟩ := hq6
      have r4e := r4e.symm; subst r4e; have r4s := r4s.symm; subst r4s
      refine e_if_ne (tgt := 38) (pc := 32) Xc (dT hX7_see 20 rfl) rfl (fun c32 => ?_) (fun c32 => ?_)
      · skip
        refine e_aload_n (pc := 38) Xc (dT hX7_see 23 rfl) 0 rfl ?_
        refine gf_X7_9 (pc := 39) Xc (dT hX7_see 24 rfl) hP.o rfl ?_
        refine e_bipush (v := 15) (pc := 42) Xc (dT hX7_see 25 rfl) rfl ?_
        refine e_ialdN (pc := 44) Xc (dT hX7_see 26 rfl) hP.a1 (by decide) rfl 15 rfl (by omega) (by decide) ?_
        refine e_val (y := nI ns) hS.2.1 ?_
        refine e_bipush (v := 6) (pc := 45) Xc (dT hX7_see 27 rfl) rfl ?_
        refine e_icmp_neN (x := ns) (y := 6) (tgt := 53) (pc := 47) Xc (dT hX7_see 28 rfl) rfl (by omega) (by omega) (fun c47 => ?_) (fun c47 => ?_)
        · skip
          refine e_aload_n (pc := 53) Xc (dT hX7_see 31 rfl) 0 rfl ?_
          refine gf_X7_9 (pc := 54) Xc (dT hX7_see 32 rfl) hP.o rfl ?_
          refine e_bipush (v := 44) (pc := 57) Xc (dT hX7_see 33 rfl) rfl ?_
          refine e_aload_n (pc := 59) Xc (dT hX7_see 34 rfl) 0 rfl ?_
          refine gf_X7_9 (pc := 60) Xc (dT hX7_see 35 rfl) hP.o rfl ?_
          refine e_bipush (v := 15) (pc := 63) Xc (dT hX7_see 36 rfl) rfl ?_
          refine e_ialdN (pc := 65) Xc (dT hX7_see 37 rfl) hP.a1 (by decide) rfl 15 rfl (by omega) (by decide) ?_
          refine e_val (y := nI ns) hS.2.1 ?_
          refine e_iaddN (a := 44) (b := ns) (pc := 66) Xc (dT hX7_see 38 rfl) ?_
          refine e_iload_n (pc := 67) Xc (dT hX7_see 39 rfl) 1 rfl ?_
          refine e_iastN (pc := 68) Xc (dT hX7_see 40 rfl) hP.a1 rfl (44 + ns) rfl (by omega) (by decide) ?_
          refine Ev.gen (fun z => PX7 z m F T (upA A 1 (upd (A 1) (44 + ns) b))) (hP.wa1 (g := (upd (A 1) (44 + ns) b))) Off.set (fun σ7 hP8 ho9 => ?_)
          refine e_aload_n (pc := 69) Xc (dT hX7_see 41 rfl) 0 rfl ?_
          refine gf_X7_9 (pc := 70) Xc (dT hX7_see 42 rfl) hP8.o rfl ?_
          refine e_bipush (v := 50) (pc := 73) Xc (dT hX7_see 43 rfl) rfl ?_
          refine e_aload_n (pc := 75) Xc (dT hX7_see 44 rfl) 0 rfl ?_
          refine gf_X7_9 (pc := 76) Xc (dT hX7_see 45 rfl) hP8.o rfl ?_
          refine e_bipush (v := 15) (pc := 79) Xc (dT hX7_see 46 rfl) rfl ?_
          refine e_ialdN (pc := 81) Xc (dT hX7_see 47 rfl) hP8.a1 (by decide) rfl 15 rfl (by omega) (by decide) ?_
          refine e_val (y := (upd (A 1) (44 + ns) b) 15) rfl ?_
          refine e_val (y := A 1 15) (upd_n (by omega)) ?_
          refine e_val (y := nI ns) hS.2.1 ?_
          refine e_iaddN (a := 50) (b := ns) (pc := 82) Xc (dT hX7_see 48 rfl) ?_
          refine e_iload_n (pc := 83) Xc (dT hX7_see 49 rfl) 2 rfl ?_
          refine e_iastN (pc := 84) Xc (dT hX7_see 50 rfl) hP8.a1 rfl (50 + ns) rfl (by omega) (by decide) ?_
          refine Ev.gen (fun z => PX7 z m F T (upA (upA A 1 (upd (A 1) (44 + ns) b)) 1 (upd (upd (A 1) (44 + ns) b) (50 + ns) d))) (hP8.wa1 (g := (upd (upd (A 1) (44 + ns) b) (50 + ns) d))) Off.set (fun σ10 hP11 ho12 => ?_)
          have hP11 : PX7 σ10 m F T (upA A 1 (upd (upd (A 1) (44 + ns) b) (50 + ns) d)) := by rw [upA_2] at hP11; exact hP11
          refine e_aload_n (pc := 85) Xc (dT hX7_see 51 rfl) 0 rfl ?_
          refine gf_X7_9 (pc := 86) Xc (dT hX7_see 52 rfl) hP11.o rfl ?_
          refine e_bipush (v := 56) (pc := 89) Xc (dT hX7_see 53 rfl) rfl ?_
          refine e_aload_n (pc := 91) Xc (dT hX7_see 54 rfl) 0 rfl ?_
          refine gf_X7_9 (pc := 92) Xc (dT hX7_see 55 rfl) hP11.o rfl ?_
          refine e_bipush (v := 15) (pc := 95) Xc (dT hX7_see 56 rfl) rfl ?_
          refine e_ialdN (pc := 97) Xc (dT hX7_see 57 rfl) hP11.a1 (by decide) rfl 15 rfl (by omega) (by decide) ?_
          refine e_val (y := (upd (upd (A 1) (44 + ns) b) (50 + ns) d) 15) rfl ?_
          refine e_val (y := A 1 15) ((upd_n (by omega)).trans (upd_n (by omega))) ?_
          refine e_val (y := nI ns) hS.2.1 ?_
          refine e_iaddN (a := 56) (b := ns) (pc := 98) Xc (dT hX7_see 58 rfl) ?_
          refine e_iload_n (pc := 99) Xc (dT hX7_see 59 rfl) 3 rfl ?_
          refine e_if_eq (tgt := 107) (pc := 100) Xc (dT hX7_see 60 rfl) rfl (fun c100 => ?_) (fun c100 => ?_)
          · skip
            refine e_iconst (v := 0) (pc := 107) Xc (dT hX7_see 63 rfl) rfl ?_
            refine e_iastN (pc := 108) Xc (dT hX7_see 64 rfl) hP11.a1 rfl (56 + ns) rfl (by omega) (by decide) ?_
            refine Ev.gen (fun z => PX7 z m F T (upA (upA A 1 (upd (upd (A 1) (44 + ns) b) (50 + ns) d)) 1 (upd (upd (upd (A 1) (44 + ns) b) (50 + ns) d) (56 + ns) 0))) (hP11.wa1 (g := (upd (upd (upd (A 1) (44 + ns) b) (50 + ns) d) (56 + ns) 0))) Off.set (fun σ13 hP14 ho15 => ?_)
            have hP14 : PX7 σ13 m F T (upA A 1 (upd (upd (upd (A 1) (44 + ns) b) (50 + ns) d) (56 + ns) 0)) := by rw [upA_2] at hP14; exact hP14
            refine e_aload_n (pc := 109) Xc (dT hX7_see 65 rfl) 0 rfl ?_
            refine gf_X7_9 (pc := 110) Xc (dT hX7_see 66 rfl) hP14.o rfl ?_
            refine e_bipush (v := 15) (pc := 113) Xc (dT hX7_see 67 rfl) rfl ?_
            refine e_dup2 (pc := 115) Xc (dT hX7_see 68 rfl) rfl rfl ?_
            refine e_ialdN (pc := 116) Xc (dT hX7_see 69 rfl) hP14.a1 (by decide) rfl 15 rfl (by omega) (by decide) ?_
            refine e_val (y := (upd (upd (upd (A 1) (44 + ns) b) (50 + ns) d) (56 + ns) 0) 15) rfl ?_
            refine e_val (y := A 1 15) ((upd_n (by omega)).trans ((upd_n (by omega)).trans (upd_n (by omega)))) ?_
            refine e_val (y := nI ns) hS.2.1 ?_
            refine e_iconst (v := 1) (pc := 117) Xc (dT hX7_see 70 rfl) rfl ?_
            refine e_iaddN (a := ns) (b := 1) (pc := 118) Xc (dT hX7_see 71 rfl) ?_
            refine e_iastN (pc := 119) Xc (dT hX7_see 72 rfl) hP14.a1 rfl 15 rfl (by omega) (by decide) ?_
            refine Ev.gen (fun z => PX7 z m F T (upA (upA A 1 (upd (upd (upd (A 1) (44 + ns) b) (50 + ns) d) (56 + ns) 0)) 1 (upd (upd (upd (upd (A 1) (44 + ns) b) (50 + ns) d) (56 + ns) 0) 15 (nI (ns + 1))))) (hP14.wa1 (g := (upd (upd (upd (upd (A 1) (44 + ns) b) (50 + ns) d) (56 + ns) 0) 15 (nI (ns + 1))))) Off.set (fun σ16 hP17 ho18 => ?_)
            refine e_aload_n (pc := 120) Xc (dT hX7_see 73 rfl) 0 rfl ?_
            refine gf_X7_9 (pc := 121) Xc (dT hX7_see 74 rfl) hP17.o rfl ?_
            refine e_bipush (v := 15) (pc := 124) Xc (dT hX7_see 75 rfl) rfl ?_
            refine e_ialdN (pc := 126) Xc (dT hX7_see 76 rfl) hP17.a1 (by decide) rfl 15 rfl (by omega) (by decide) ?_
            refine e_val (y := (upd (upd (upd (upd (A 1) (44 + ns) b) (50 + ns) d) (56 + ns) 0) 15 (nI (ns + 1))) 15) rfl ?_
            refine e_val (y := nI (ns + 1)) upd_s ?_
            refine e_iret (pc := 127) Xc hQ (dT hX7_see 77 rfl) (Nat.le_refl _) (Nat.le_refl _) ?_
            have hz : v_see (A 1) nb ns b d is = (nI (ns + 1), (upd (upd (upd (upd (A 1) (44 + ns) b) (50 + ns) d) (56 + ns) 0) 15 (nI (ns + 1)))) := by
              try simp only [bI_0, bI_1, Bool.not_eq_true, Bool.not_eq_false] at c2 c20 c32 c47 c100
              first | (simp [v_see, c2, c20, c32, c47, c100]; done) | (clear hK hG hT hS hPl hNo hTa hA hJ hR hD hQ Xc; simp_all [v_see]; done)
            rw [hz]
            exact ⟨rfl, ⟨_, _, _, hP17, rfl, rfl, rfl, rfl, rfl⟩, (((ho9.tr ho12).tr ho15).tr ho18)⟩
          · skip
            refine e_iconst (v := 1) (pc := 103) Xc (dT hX7_see 61 rfl) rfl ?_
            refine e_goto (tgt := 108) (pc := 104) Xc (dT hX7_see 62 rfl) rfl ?_
            refine e_iastN (pc := 108) Xc (dT hX7_see 64 rfl) hP11.a1 rfl (56 + ns) rfl (by omega) (by decide) ?_
            refine Ev.gen (fun z => PX7 z m F T (upA (upA A 1 (upd (upd (A 1) (44 + ns) b) (50 + ns) d)) 1 (upd (upd (upd (A 1) (44 + ns) b) (50 + ns) d) (56 + ns) 1))) (hP11.wa1 (g := (upd (upd (upd (A 1) (44 + ns) b) (50 + ns) d) (56 + ns) 1))) Off.set (fun σ19 hP20 ho21 => ?_)
            have hP20 : PX7 σ19 m F T (upA A 1 (upd (upd (upd (A 1) (44 + ns) b) (50 + ns) d) (56 + ns) 1)) := by rw [upA_2] at hP20; exact hP20
            refine e_aload_n (pc := 109) Xc (dT hX7_see 65 rfl) 0 rfl ?_
            refine gf_X7_9 (pc := 110) Xc (dT hX7_see 66 rfl) hP20.o rfl ?_
            refine e_bipush (v := 15) (pc := 113) Xc (dT hX7_see 67 rfl) rfl ?_
            refine e_dup2 (pc := 115) Xc (dT hX7_see 68 rfl) rfl rfl ?_
            refine e_ialdN (pc := 116) Xc (dT hX7_see 69 rfl) hP20.a1 (by decide) rfl 15 rfl (by omega) (by decide) ?_
            refine e_val (y := (upd (upd (upd (A 1) (44 + ns) b) (50 + ns) d) (56 + ns) 1) 15) rfl ?_
            refine e_val (y := A 1 15) ((upd_n (by omega)).trans ((upd_n (by omega)).trans (upd_n (by omega)))) ?_
            refine e_val (y := nI ns) hS.2.1 ?_
            refine e_iconst (v := 1) (pc := 117) Xc (dT hX7_see 70 rfl) rfl ?_
            refine e_iaddN (a := ns) (b := 1) (pc := 118) Xc (dT hX7_see 71 rfl) ?_
            refine e_iastN (pc := 119) Xc (dT hX7_see 72 rfl) hP20.a1 rfl 15 rfl (by omega) (by decide) ?_
            refine Ev.gen (fun z => PX7 z m F T (upA (upA A 1 (upd (upd (upd (A 1) (44 + ns) b) (50 + ns) d) (56 + ns) 1)) 1 (upd (upd (upd (upd (A 1) (44 + ns) b) (50 + ns) d) (56 + ns) 1) 15 (nI (ns + 1))))) (hP20.wa1 (g := (upd (upd (upd (upd (A 1) (44 + ns) b) (50 + ns) d) (56 + ns) 1) 15 (nI (ns + 1))))) Off.set (fun σ22 hP23 ho24 => ?_)
            refine e_aload_n (pc := 120) Xc (dT hX7_see 73 rfl) 0 rfl ?_
            refine gf_X7_9 (pc := 121) Xc (dT hX7_see 74 rfl) hP23.o rfl ?_
            refine e_bipush (v := 15) (pc := 124) Xc (dT hX7_see 75 rfl) rfl ?_
            refine e_ialdN (pc := 126) Xc (dT hX7_see 76 rfl) hP23.a1 (by decide) rfl 15 rfl (by omega) (by decide) ?_
            refine e_val (y := (upd (upd (upd (upd (A 1) (44 + ns) b) (50 + ns) d) (56 + ns) 1) 15 (nI (ns + 1))) 15) rfl ?_
            refine e_val (y := nI (ns + 1)) upd_s ?_
            refine e_iret (pc := 127) Xc hQ (dT hX7_see 77 rfl) (Nat.le_refl _) (Nat.le_refl _) ?_
            have hz : v_see (A 1) nb ns b d is = (nI (ns + 1), (upd (upd (upd (upd (A 1) (44 + ns) b) (50 + ns) d) (56 + ns) 1) 15 (nI (ns + 1)))) := by
              try simp only [bI_0, bI_1, Bool.not_eq_true, Bool.not_eq_false] at c2 c20 c32 c47 c100
              first | (simp [v_see, c2, c20, c32, c47, c100]; done) | (clear hK hG hT hS hPl hNo hTa hA hJ hR hD hQ Xc; simp_all [v_see]; done)
            rw [hz]
            exact ⟨rfl, ⟨_, _, _, hP23, rfl, rfl, rfl, rfl, rfl⟩, (((ho9.tr ho12).tr ho21).tr ho24)⟩
        · skip
          refine e_bipush (v := -4) (pc := 50) Xc (dT hX7_see 29 rfl) rfl ?_
          refine e_iret (pc := 52) Xc hQ (dT hX7_see 30 rfl) (Nat.le_refl _) (Nat.le_refl _) ?_
          have hz : v_see (A 1) nb ns b d is = ((-4), A 1) := by
            try simp only [bI_0, bI_1, Bool.not_eq_true, Bool.not_eq_false] at c2 c20 c32 c47
            first | (simp [v_see, c2, c20, c32, c47]; done) | (clear hK hG hT hS hPl hNo hTa hA hJ hR hD hQ Xc; simp_all [v_see]; done)
          rw [hz]
          exact ⟨rfl, ⟨_, _, _, hP, rfl, rfl, rfl, rfl, rfl⟩, Off.rf⟩
      · skip
        refine e_bipush (v := -2) (pc := 35) Xc (dT hX7_see 21 rfl) rfl ?_
        refine e_iret (pc := 37) Xc hQ (dT hX7_see 22 rfl) (Nat.le_refl _) (Nat.le_refl _) ?_
        have hz : v_see (A 1) nb ns b d is = ((-2), A 1) := by
          try simp only [bI_0, bI_1, Bool.not_eq_true, Bool.not_eq_false] at c2 c20 c32
          first | (simp [v_see, c2, c20, c32]; done) | (clear hK hG hT hS hPl hNo hTa hA hJ hR hD hQ Xc; simp_all [v_see]; done)
        rw [hz]
        exact ⟨rfl, ⟨_, _, _, hP, rfl, rfl, rfl, rfl, rfl⟩, Off.rf⟩
    · skip
      refine e_iconst (v := -1) (pc := 23) Xc (dT hX7_see 14 rfl) rfl ?_
      refine e_iret (pc := 24) Xc hQ (dT hX7_see 15 rfl) (Nat.le_refl _) (Nat.le_refl _) ?_
      have hz : v_see (A 1) nb ns b d is = ((-1), A 1) := by
        try simp only [bI_0, bI_1, Bool.not_eq_true, Bool.not_eq_false] at c2 c20
        first | (simp [v_see, c2, c20]; done) | (clear hK hG hT hS hPl hNo hTa hA hJ hR hD hQ Xc; simp_all [v_see]; done)
      rw [hz]
      exact ⟨rfl, ⟨_, _, _, hP, rfl, rfl, rfl, rfl, rfl⟩, Off.rf⟩
  · skip
    refine e_aload_n (pc := 5) Xc (dT hX7_see 3 rfl) 0 rfl ?_
    refine gf_X7_9 (pc := 6) Xc (dT hX7_see 4 rfl) hP.o rfl ?_
    refine e_bipush (v := 15) (pc := 9) Xc (dT hX7_see 5 rfl) rfl ?_
    refine e_iconst (v := 0) (pc := 11) Xc (dT hX7_see 6 rfl) rfl ?_
    refine e_iastN (pc := 12) Xc (dT hX7_see 7 rfl) hP.a1 rfl 15 rfl (by omega) (by decide) ?_
    refine Ev.gen (fun z => PX7 z m F T (upA A 1 (upd (A 1) 15 0))) (hP.wa1 (g := (upd (A 1) 15 0))) Off.set (fun σ25 hP26 ho27 => ?_)
    refine e_iconst (v := 0) (pc := 13) Xc (dT hX7_see 8 rfl) rfl ?_
    refine e_iret (pc := 14) Xc hQ (dT hX7_see 9 rfl) (Nat.le_refl _) (Nat.le_refl _) ?_
    have hz : v_see (A 1) nb ns b d is = (0, (upd (A 1) 15 0)) := by
      try simp only [bI_0, bI_1, Bool.not_eq_true, Bool.not_eq_false] at c2
      first | (simp [v_see, c2]; done) | (clear hK hG hT hS hPl hNo hTa hA hJ hR hD hQ Xc; simp_all [v_see]; done)
    rw [hz]
    exact ⟨rfl, ⟨_, _, _, hP26, rfl, rfl, rfl, rfl, rfl⟩, ho27⟩
