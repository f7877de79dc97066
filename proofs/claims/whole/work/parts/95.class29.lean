set_option maxRecDepth 100000 in
set_option maxHeartbeats 4000000 in
theorem b_odds {G : xG} {σ : xS} {x m : Nat} {X Y bd : Nat → Int32} {hi : Int32} {rr : Nat} {nr nb ns np nn nt na dy : Nat} {t : xT} (hB : BK G σ x m X Y bd hi rr nr nb ns np nn nt t) (hK : OK X nr nb t ns np nn nt na dy) (b : Int32) (part : Int32) : CL G yX6_odds cX6_odds 5 (some .long) 7 0 0 [.ref x, .int b, .int part] σ (fun z σ1 => z = v_odds X t nr nb b part ∧ BK G σ1 x m X Y bd hi rr nr nb ns np nn nt t ∧ OffB x σ σ1) := by
  refine Met.ofX (by decide +kernel) (Nat.le_of_ble_eq_true rfl) (fun μ Xc hQ hnm => ?_)
  have Xc : xC G μ cX6_odds 5 RX6 (some .long) 7 0 0 := Xc
  obtain ⟨hSA, ⟨hgA, hgO⟩, hxm, hms, ⟨Fx, Ax, hx, hF7⟩, ⟨tw, htw, hXn⟩, ⟨F5, T5, A5, hP5⟩, ⟨Fp, Tp, Ap, hPp, hRP⟩, ⟨Fg, Tg, Ag, hPg⟩, ⟨Fa, Ta, Aa, hPa, hFa1, hAa⟩, hBI⟩ := id hB
  obtain ⟨htw1, htw2, htw3⟩ := id htw
  obtain ⟨hG, hT, hS, hPl, hNo, hTa, hA, hJ, hR, hD⟩ := id hK
  have hr4 := hG.r4
  have hb7 := hG.b7
  have hs6 := hS.1
  have hp8 := hPl.1
  have hn8 := hNo.1
  have ht100 := hTa.1
  have ha5 := hA.1
  have hdy := hD.1
  have hd0 := hD.2
  have ht13 : tw ≠ x + 13 := by omega
  have hb8 : ns ≤ 6 ∧ np ≤ 8 ∧ nn ≤ 8 ∧ nt ≤ 100 := ⟨hs6, hp8, hn8, ht100⟩
  show Ev G μ 5 0 0 0 [(0, .ref x), (1, .int b), (2, .int part)] [] σ
  obtain ⟨Fw1, Tw1, Aw1, hBw1, htw1⟩ := id hXn
  have hWw1 := hBw1.2.1
  refine e_aload_n (pc := 0) Xc (dT hX6_odds 0 rfl) 0 rfl ?_
  refine gf_X6_12 (pc := 1) Xc (dT hX6_odds 1 rfl) hx.o rfl ?_
  refine e_iload_n (pc := 4) Xc (dT hX6_odds 2 rfl) 1 rfl ?_
  refine cl_X6_126 (pc := 5) (k := 0) (n := 0) (S := []) Xc hBw1.1.o (c5_isBook hBw1 b) (dT hX6_odds 3 rfl) rfl (Nat.le_of_ble_eq_true rfl) (Nat.le_of_ble_eq_true rfl) (Nat.le_of_ble_eq_true rfl) rfl (Nat.le_of_ble_eq_true rfl) (fun r2 σ3 hq4 => ?_)
  obtain ⟨r2e, r2s⟩ := hq4
  have r2e := r2e.symm; subst r2e; have r2s := r2s.symm; subst r2s
  refine e_if_eq (tgt := 30) (pc := 8) Xc (dT hX6_odds 4 rfl) rfl (fun c8 => ?_) (fun c8 => ?_)
  · skip
    refine e_ldc2 (pc := 30) Xc (dT hX6_odds 14 rfl) w_k_X6_252 ?_
    refine e_lret (pc := 33) Xc hQ (dT hX6_odds 15 rfl) (Nat.le_refl _) (Nat.le_refl _) ?_
    have hz : v_odds X t nr nb b part = -9223372036854775808 := by rw [v_odds, if_neg (fun e_ => by rw [bI_0.mp c8] at e_; exact Bool.noConfusion e_.1)]
    exact ⟨hz.symm, hB, OffB.rf⟩
  · skip
    obtain ⟨p, hp, rfl⟩ := inF_nat (v := b) (n := nb) (by omega) (by simpa [bI_0, bI_1] using c8)
    have hc_p : cl (nI p) = p := cl_nI (by omega)
    refine e_iload_n (pc := 11) Xc (dT hX6_odds 5 rfl) 2 rfl ?_
    refine e_if_lt (tgt := 30) (pc := 12) Xc (dT hX6_odds 6 rfl) rfl (fun c12 => ?_) (fun c12 => ?_)
    · skip
      have hin_part : inF part 0 1 = false := by
        have k12_ := c12
        simp only [Int32.lt_iff_toInt_lt, Int32.le_iff_toInt_le] at k12_
        have l0_ : (0 : Int32).toInt = 0 := by decide
        have l1_ : (1 : Int32).toInt = 1 := by decide
        have l2_ : (2 : Int32).toInt = 2 := by decide
        rw [inF_ff]
        omega
      refine e_ldc2 (pc := 30) Xc (dT hX6_odds 14 rfl) w_k_X6_252 ?_
      refine e_lret (pc := 33) Xc hQ (dT hX6_odds 15 rfl) (Nat.le_refl _) (Nat.le_refl _) ?_
      have hz : v_odds X t nr nb (nI p) part = -9223372036854775808 := by rw [v_odds, if_neg (fun e_ => by rw [hin_part] at e_; exact Bool.noConfusion e_.2.1)]
      exact ⟨hz.symm, hB, OffB.rf⟩
    · skip
      refine e_iload_n (pc := 15) Xc (dT hX6_odds 7 rfl) 2 rfl ?_
      refine e_iconst (v := 1) (pc := 16) Xc (dT hX6_odds 8 rfl) rfl ?_
      refine e_icmp_gt (tgt := 30) (pc := 17) Xc (dT hX6_odds 9 rfl) rfl (fun c17 => ?_) (fun c17 => ?_)
      · skip
        have hin_part : inF part 0 1 = false := by
          have k12_ := c12
          have k17_ := c17
          simp only [Int32.lt_iff_toInt_lt, Int32.le_iff_toInt_le] at k12_ k17_
          have l0_ : (0 : Int32).toInt = 0 := by decide
          have l1_ : (1 : Int32).toInt = 1 := by decide
          have l2_ : (2 : Int32).toInt = 2 := by decide
          rw [inF_ff]
          omega
        refine e_ldc2 (pc := 30) Xc (dT hX6_odds 14 rfl) w_k_X6_252 ?_
        refine e_lret (pc := 33) Xc hQ (dT hX6_odds 15 rfl) (Nat.le_refl _) (Nat.le_refl _) ?_
        have hz : v_odds X t nr nb (nI p) part = -9223372036854775808 := by rw [v_odds, if_neg (fun e_ => by rw [hin_part] at e_; exact Bool.noConfusion e_.2.1)]
        exact ⟨hz.symm, hB, OffB.rf⟩
      · skip
        have hin_part : inF part 0 1 = true := by
          have k12_ := c12
          have k17_ := c17
          simp only [Int32.lt_iff_toInt_lt, Int32.le_iff_toInt_le] at k12_ k17_
          have l0_ : (0 : Int32).toInt = 0 := by decide
          have l1_ : (1 : Int32).toInt = 1 := by decide
          have l2_ : (2 : Int32).toInt = 2 := by decide
          rw [inF_iff]
          omega
        refine e_aload_n (pc := 20) Xc (dT hX6_odds 10 rfl) 0 rfl ?_
        refine gf_X6_12 (pc := 21) Xc (dT hX6_odds 11 rfl) hx.o rfl ?_
        refine gf_X6_92 (pc := 24) Xc (dT hX6_odds 12 rfl) hBw1.1.o rfl ?_
        refine e_val (y := nI nr) hWw1.2.2.2.2.2.2.1 ?_
        refine e_if_ne (tgt := 34) (pc := 27) Xc (dT hX6_odds 13 rfl) rfl (fun c27 => ?_) (fun c27 => ?_)
        · skip
          have hn0_ : 0 < nr := by
            rcases Nat.eq_zero_or_pos nr with e_ | e_
            · subst e_; exact absurd rfl c27
            · exact e_
          refine e_aload_n (pc := 34) Xc (dT hX6_odds 16 rfl) 0 rfl ?_
          refine cl_X6_116 (pc := 35) (k := 0) (n := 0) (S := []) Xc hx.o (c6_fresh hx ⟨Fw1, Tw1, Aw1, hBw1, htw1⟩ ht13 hP5 hdy hd0) (dT hX6_odds 17 rfl) rfl (Nat.le_of_ble_eq_true rfl) (Nat.le_of_ble_eq_true rfl) (Nat.le_of_ble_eq_true rfl) rfl (Nat.le_of_ble_eq_true rfl) (fun σ6 hq7 => ?_)
          obtain ⟨hT8, ho9⟩ := hq7
          have hP10 := hx.off ho9 (by omega)
          have hP11 := hPp.off ho9 (by omega)
          have hP12 := hPg.off ho9 (by omega)
          have hP13 := hPa.off ho9 (by omega)
          have hB14 := hBw1.off ho9 (by omega) (by rw [htw1]; omega)
          obtain ⟨lnw15, hXw15, hdlw15, hd0w15, hbtw15⟩ := id hT8
          obtain ⟨Fw15, Tw15, Aw15, hBw15, htw15⟩ := id hXw15
          have hWw15 := hBw15.2.1
          refine e_iconst (v := 0) (pc := 38) Xc (dT hX6_odds 18 rfl) rfl ?_
          refine e_istore_n (L' := [(3, .int 0), (0, .ref x), (1, .int (nI p)), (2, .int part)]) (pc := 39) Xc (dT hX6_odds 19 rfl) (by decide) rfl ?_
          refine e_iconst (v := 0) (pc := 40) Xc (dT hX6_odds 20 rfl) rfl ?_
          refine e_istore (L' := [(4, .int 0), (3, .int 0), (0, .ref x), (1, .int (nI p)), (2, .int part)]) (pc := 41) Xc (dT hX6_odds 21 rfl) (by decide) rfl ?_
          have lp43 : ∀ (n43 : Nat) (r_ tm_ : Nat) (Xc_ : Nat → Int32) (ln_ : Nat) (σ2 : xS), nr - r_ < n43 → (r_ ≤ nr) → (tm_ = odN X t nr nb (nI p) r_) → (∀ j, 5 ≤ j → Xc_ j = X j) → (ln_.testBit (dy % 10) = true) → (WX σ2 (x + 13) tw Xc_ nr nb t ln_) → (Off (x + 13) σ6 σ2) → Ev G μ 5 0 0 43 [(0, .ref x), (1, .int (nI p)), (2, .int part), (3, .int (nI tm_)), (4, .int (nI r_))] [] σ2 := by
            intro n43
            induction n43 with
            | zero => intro r_ tm_ Xc_ ln_ σ2 hn; exact absurd hn (Nat.not_lt_zero _)
            | succ n43 ih43 =>
              intro r_ tm_ Xc_ ln_ σ2 hn43 hr_ htm_ hXc_ hbl_ hT2 hO2
              have htl_ := odN_le (X := X) (t := t) (nr := nr) (nb := nb) (b := nI p) r_
              have hP16 := hP10.off hO2 (by omega)
              have hP17 := hP11.off hO2 (by omega)
              have hP18 := hP12.off hO2 (by omega)
              have hP19 := hP13.off hO2 (by omega)
              have hB20 := hB14.off hO2 (by omega) (by rw [htw1]; omega)
              obtain ⟨Fw21, Tw21, Aw21, hBw21, htw21⟩ := id hT2
              have hWw21 := hBw21.2.1
              refine e_iload (pc := 43) Xc (dT hX6_odds 22 rfl) 4 rfl ?_
              refine e_aload_n (pc := 45) Xc (dT hX6_odds 23 rfl) 0 rfl ?_
              refine gf_X6_12 (pc := 46) Xc (dT hX6_odds 24 rfl) hP16.o rfl ?_
              refine gf_X6_92 (pc := 49) Xc (dT hX6_odds 25 rfl) hB20.1.o rfl ?_
              refine e_val (y := nI nr) hWw1.2.2.2.2.2.2.1 ?_
              refine e_icmp_geN (x := r_) (y := nr) (tgt := 98) (pc := 52) Xc (dT hX6_odds 26 rfl) rfl (by omega) (by omega) (fun c52 => ?_) (fun c52 => ?_)
              · skip
                refine e_iload_n (pc := 98) Xc (dT hX6_odds 46 rfl) 3 rfl ?_
                refine e_aload_n (pc := 99) Xc (dT hX6_odds 47 rfl) 0 rfl ?_
                refine gf_X6_12 (pc := 100) Xc (dT hX6_odds 48 rfl) hP16.o rfl ?_
                refine gf_X6_92 (pc := 103) Xc (dT hX6_odds 49 rfl) hB20.1.o rfl ?_
                refine e_val (y := nI nr) hWw1.2.2.2.2.2.2.1 ?_
                refine e_iload_n (pc := 106) Xc (dT hX6_odds 50 rfl) 2 rfl ?_
                refine cl_X6_254 (pc := 107) (k := 0) (n := 0) (S := []) Xc (c6_fraction tm_ nr (by omega) (by omega) (by omega) part) (dT hX6_odds 51 rfl) rfl (Nat.le_of_ble_eq_true rfl) (Nat.le_of_ble_eq_true rfl) (Nat.le_of_ble_eq_true rfl) rfl (Nat.le_of_ble_eq_true rfl) (fun r22 σ23 hq24 => ?_)
                obtain ⟨r22e, r22s⟩ := hq24
                have r22e := r22e.symm; subst r22e; have r22s := r22s.symm; subst r22s
                refine e_lret (pc := 110) Xc hQ (dT hX6_odds 52 rfl) (Nat.le_refl _) (Nat.le_refl _) ?_
                have hre_ : r_ = nr := by omega
                have hz : v_odds X t nr nb (nI p) part = loF tm_ nr part := by rw [v_odds, if_pos ⟨inF_of (by omega) hp, hin_part, by omega⟩, htm_, hre_]
                obtain ⟨hb_, ho_⟩ := hB.asks ((OffS.of (S := fun o => o = x + 13 ∨ o = x + 55) ho9 (Or.inl rfl)).tr (OffS.of (S := fun o => o = x + 13 ∨ o = x + 55) hO2 (Or.inl rfl))) ⟨_, _, _, hBw21.1⟩ ⟨_, _, _, hP18⟩
                exact ⟨hz.symm, hb_, ho_⟩
              · skip
                refine e_aload_n (pc := 55) Xc (dT hX6_odds 27 rfl) 0 rfl ?_
                refine gf_X6_18 (pc := 56) Xc (dT hX6_odds 28 rfl) hP16.o rfl ?_
                refine e_aload_n (pc := 59) Xc (dT hX6_odds 29 rfl) 0 rfl ?_
                refine gf_X6_12 (pc := 60) Xc (dT hX6_odds 30 rfl) hP16.o rfl ?_
                refine cl_X6_243 (pc := 63) (k := 0) (n := 0) (S := []) Xc hBw21.1.o (c5_goBack ⟨Fw21, Tw21, Aw21, hBw21, htw21⟩ ⟨Fw1, Tw1, Aw1, hB20, htw1⟩ (by omega) hXc_) (dT hX6_odds 31 rfl) rfl (Nat.le_of_ble_eq_true rfl) (Nat.le_of_ble_eq_true rfl) (Nat.le_of_ble_eq_true rfl) rfl (Nat.le_of_ble_eq_true rfl) (fun σ26 hq27 => ?_)
                obtain ⟨hT28, ho29⟩ := hq27
                have hP30 := hP16.off ho29 (by omega)
                have hP31 := hP17.off ho29 (by omega)
                have hP32 := hP18.off ho29 (by omega)
                have hP33 := hP19.off ho29 (by omega)
                have hB34 := hB20.off ho29 (by omega) (by rw [htw1]; omega)
                obtain ⟨Fw35, Tw35, Aw35, hBw35, htw35⟩ := id hT28
                have hWw35 := hBw35.2.1
                refine e_aload_n (pc := 66) Xc (dT hX6_odds 32 rfl) 0 rfl ?_
                refine gf_X6_18 (pc := 67) Xc (dT hX6_odds 33 rfl) hP30.o rfl ?_
                refine e_iload (pc := 70) Xc (dT hX6_odds 34 rfl) 4 rfl ?_
                refine cl_X6_158 (pc := 72) (k := 0) (n := 0) (S := []) Xc hBw35.1.o (c5_comes ⟨Fw35, Tw35, Aw35, hBw35, htw35⟩ ⟨dy, by omega, hd0, hbl_⟩ r_ (by omega)) (dT hX6_odds 35 rfl) rfl (Nat.le_of_ble_eq_true rfl) (Nat.le_of_ble_eq_true rfl) (Nat.le_of_ble_eq_true rfl) rfl (Nat.le_of_ble_eq_true rfl) (fun r36 σ37 hq38 => ?_)
                obtain ⟨r36e, hT39, ho40⟩ := hq38
                have r36e := r36e.symm; subst r36e
                have hP41 := hP30.off ho40 (by omega)
                have hP42 := hP31.off ho40 (by omega)
                have hP43 := hP32.off ho40 (by omega)
                have hP44 := hP33.off ho40 (by omega)
                have hB45 := hB34.off ho40 (by omega) (by rw [htw1]; omega)
                obtain ⟨Fw46, Tw46, Aw46, hBw46, htw46⟩ := id hT39
                have hWw46 := hBw46.2.1
                refine e_pop (pc := 75) Xc (dT hX6_odds 36 rfl) rfl ?_
                refine e_aload_n (pc := 76) Xc (dT hX6_odds 37 rfl) 0 rfl ?_
                refine gf_X6_18 (pc := 77) Xc (dT hX6_odds 38 rfl) hP41.o rfl ?_
                refine e_iload_n (pc := 80) Xc (dT hX6_odds 39 rfl) 1 rfl ?_
                refine cl_X6_133 (pc := 81) (k := 0) (n := 0) (S := []) Xc hBw46.1.o (c5_holder hBw46 p (by omega)) (dT hX6_odds 40 rfl) rfl (Nat.le_of_ble_eq_true rfl) (Nat.le_of_ble_eq_true rfl) (Nat.le_of_ble_eq_true rfl) rfl (Nat.le_of_ble_eq_true rfl) (fun r47 σ48 hq49 => ?_)
                obtain ⟨r47e, r47s⟩ := hq49
                have r47e := r47e.symm; subst r47e; have r47s := r47s.symm; subst r47s
                refine e_bipush (v := -5) (pc := 84) Xc (dT hX6_odds 41 rfl) rfl ?_
                refine e_icmp_ne (tgt := 92) (pc := 86) Xc (dT hX6_odds 42 rfl) rfl (fun c86 => ?_) (fun c86 => ?_)
                · skip
                  refine e_iincN (a := r_) (b := 1) (L' := [(4, .int (nI (r_ + 1))), (0, .ref x), (1, .int (nI p)), (2, .int part), (3, .int (nI tm_))]) (pc := 92) Xc (dT hX6_odds 44 rfl) 4 rfl rfl (by decide) rfl ?_
                  refine e_goto (tgt := 43) (pc := 95) Xc (dT hX6_odds 45 rfl) rfl ?_
                  refine Ev.pick (L' := [(0, .ref x), (1, .int (nI p)), (2, .int part), (3, .int (nI tm_)), (4, .int (nI (r_ + 1)))]) [1, 2, 3, 4, 0] rfl ?_
                  exact ih43 (r_ + 1) tm_ (comeF X t nr nb r_) ln_ σ37 (by omega) (by omega) (by rw [odN, itr, ← odN, if_neg (fun e_ => c86 ((hold5 hr4).mpr e_)), htm_]; rfl) (fun j hj => come_hi (by omega) hj) hbl_ (⟨Fw46, Tw46, Aw46, hBw46, htw46⟩) ((hO2.tr ho29).tr ho40)
                · skip
                  refine e_iincN (a := tm_) (b := 1) (L' := [(3, .int (nI (tm_ + 1))), (0, .ref x), (1, .int (nI p)), (2, .int part), (4, .int (nI r_))]) (pc := 89) Xc (dT hX6_odds 43 rfl) 3 rfl rfl (by decide) rfl ?_
                  refine e_iincN (a := r_) (b := 1) (L' := [(4, .int (nI (r_ + 1))), (3, .int (nI (tm_ + 1))), (0, .ref x), (1, .int (nI p)), (2, .int part)]) (pc := 92) Xc (dT hX6_odds 44 rfl) 4 rfl rfl (by decide) rfl ?_
                  refine e_goto (tgt := 43) (pc := 95) Xc (dT hX6_odds 45 rfl) rfl ?_
                  refine Ev.pick (L' := [(0, .ref x), (1, .int (nI p)), (2, .int part), (3, .int (nI (tm_ + 1))), (4, .int (nI (r_ + 1)))]) [2, 3, 4, 1, 0] rfl ?_
                  exact ih43 (r_ + 1) (tm_ + 1) (comeF X t nr nb r_) ln_ σ37 (by omega) (by omega) (by rw [odN, itr, ← odN, if_pos ((hold5 hr4).mp c86), htm_]) (fun j hj => come_hi (by omega) hj) hbl_ (⟨Fw46, Tw46, Aw46, hBw46, htw46⟩) ((hO2.tr ho29).tr ho40)
          refine Ev.pick (L' := [(0, .ref x), (1, .int (nI p)), (2, .int part), (3, .int 0), (4, .int 0)]) [2, 3, 4, 1, 0] rfl ?_
          exact lp43 ((nr - 0) + 1) 0 0 X lnw15 σ6 (Nat.lt_succ_self _) (Nat.zero_le _) rfl (fun j _ => rfl) hbtw15 (⟨Fw15, Tw15, Aw15, hBw15, htw15⟩) Off.rf
        · skip
          have hn0_ : nr = 0 := (nI_eq (by omega) (by decide)).mp c27
          refine e_ldc2 (pc := 30) Xc (dT hX6_odds 14 rfl) w_k_X6_252 ?_
          refine e_lret (pc := 33) Xc hQ (dT hX6_odds 15 rfl) (Nat.le_refl _) (Nat.le_refl _) ?_
          have hz : v_odds X t nr nb (nI p) part = -9223372036854775808 := by rw [v_odds, if_neg (fun e_ => e_.2.2 hn0_)]
          exact ⟨hz.symm, hB, OffB.rf⟩
set_option maxRecDepth 100000 in
set_option maxHeartbeats 4000000 in
theorem b_mean {G : xG} {σ : xS} {x m : Nat} {X Y bd : Nat → Int32} {hi : Int32} {rr : Nat} {nr nb ns np nn nt na dy : Nat} {t : xT} (hB : BK G σ x m X Y bd hi rr nr nb ns np nn nt t) (hK : OK X nr nb t ns np nn nt na dy) (n : Int32) (part : Int32) : CL G yX6_mean cX6_mean 4 (some .long) 8 0 0 [.ref x, .int n, .int part] σ (fun z σ1 => z = v_mean X t nr nb n part ∧ BK G σ1 x m X Y bd hi rr nr nb ns np nn nt t ∧ OffB x σ σ1) := by
  refine Met.ofX (by decide +kernel) (Nat.le_of_ble_eq_true rfl) (fun μ Xc hQ hnm => ?_)
  have Xc : xC G μ cX6_mean 4 RX6 (some .long) 8 0 0 := Xc
  obtain ⟨hSA, ⟨hgA, hgO⟩, hxm, hms, ⟨Fx, Ax, hx, hF7⟩, ⟨tw, htw, hXn⟩, ⟨F5, T5, A5, hP5⟩, ⟨Fp, Tp, Ap, hPp, hRP⟩, ⟨Fg, Tg, Ag, hPg⟩, ⟨Fa, Ta, Aa, hPa, hFa1, hAa⟩, hBI⟩ := id hB
  obtain ⟨htw1, htw2, htw3⟩ := id htw
  obtain ⟨hG, hT, hS, hPl, hNo, hTa, hA, hJ, hR, hD⟩ := id hK
  have hr4 := hG.r4
  have hb7 := hG.b7
  have hs6 := hS.1
  have hp8 := hPl.1
  have hn8 := hNo.1
  have ht100 := hTa.1
  have ha5 := hA.1
  have hdy := hD.1
  have hd0 := hD.2
  have ht13 : tw ≠ x + 13 := by omega
  have hb8 : ns ≤ 6 ∧ np ≤ 8 ∧ nn ≤ 8 ∧ nt ≤ 100 := ⟨hs6, hp8, hn8, ht100⟩
  show Ev G μ 4 0 0 0 [(0, .ref x), (1, .int n), (2, .int part)] [] σ
  obtain ⟨Fw1, Tw1, Aw1, hBw1, htw1⟩ := id hXn
  have hWw1 := hBw1.2.1
  refine e_iload_n (pc := 0) Xc (dT hX6_mean 0 rfl) 1 rfl ?_
  refine cl_X6_165 (pc := 1) (k := 0) (n := 0) (S := []) Xc (c6_isDays n) (dT hX6_mean 1 rfl) rfl (Nat.le_of_ble_eq_true rfl) (Nat.le_of_ble_eq_true rfl) (Nat.le_of_ble_eq_true rfl) rfl (Nat.le_of_ble_eq_true rfl) (fun r2 σ3 hq4 => ?_)
  obtain ⟨r2e, r2s⟩ := hq4
  have r2e := r2e.symm; subst r2e; have r2s := r2s.symm; subst r2s
  refine e_if_eq (tgt := 16) (pc := 4) Xc (dT hX6_mean 2 rfl) rfl (fun c4 => ?_) (fun c4 => ?_)
  · skip
    refine e_ldc2 (pc := 16) Xc (dT hX6_mean 8 rfl) w_k_X6_252 ?_
    refine e_lret (pc := 19) Xc hQ (dT hX6_mean 9 rfl) (Nat.le_refl _) (Nat.le_refl _) ?_
    have hz : v_mean X t nr nb n part = -9223372036854775808 := by rw [v_mean, if_neg (fun e_ => by rw [bI_0.mp c4] at e_; exact Bool.noConfusion e_.1)]
    exact ⟨hz.symm, hB, OffB.rf⟩
  · skip
    obtain ⟨kn_, hkn_, rfl⟩ := in_N (w := n) (n := 40) (by omega) (by have hcc := c4; simp only [bI_0, bI_1, Bool.not_eq_true, Bool.not_eq_false] at hcc; exact hcc)
    have hc_kn_ : cl (nI kn_) = kn_ := cl_nI (by omega)
    refine e_iload_n (pc := 7) Xc (dT hX6_mean 3 rfl) 2 rfl ?_
    refine e_if_lt (tgt := 16) (pc := 8) Xc (dT hX6_mean 4 rfl) rfl (fun c8 => ?_) (fun c8 => ?_)
    · skip
      have hin_part : inF part 0 1 = false := by
        have k8_ := c8
        simp only [Int32.lt_iff_toInt_lt, Int32.le_iff_toInt_le] at k8_
        have l0_ : (0 : Int32).toInt = 0 := by decide
        have l1_ : (1 : Int32).toInt = 1 := by decide
        have l2_ : (2 : Int32).toInt = 2 := by decide
        rw [inF_ff]
        omega
      refine e_ldc2 (pc := 16) Xc (dT hX6_mean 8 rfl) w_k_X6_252 ?_
      refine e_lret (pc := 19) Xc hQ (dT hX6_mean 9 rfl) (Nat.le_refl _) (Nat.le_refl _) ?_
      have hz : v_mean X t nr nb (nI kn_) part = -9223372036854775808 := by rw [v_mean, if_neg (fun e_ => by rw [hin_part] at e_; exact Bool.noConfusion e_.2)]
      exact ⟨hz.symm, hB, OffB.rf⟩
    · skip
      refine e_iload_n (pc := 11) Xc (dT hX6_mean 5 rfl) 2 rfl ?_
      refine e_iconst (v := 1) (pc := 12) Xc (dT hX6_mean 6 rfl) rfl ?_
      refine e_icmp_le (tgt := 20) (pc := 13) Xc (dT hX6_mean 7 rfl) rfl (fun c13 => ?_) (fun c13 => ?_)
      · skip
        have hin_part : inF part 0 1 = true := by
          have k8_ := c8
          have k13_ := c13
          simp only [Int32.lt_iff_toInt_lt, Int32.le_iff_toInt_le] at k8_ k13_
          have l0_ : (0 : Int32).toInt = 0 := by decide
          have l1_ : (1 : Int32).toInt = 1 := by decide
          have l2_ : (2 : Int32).toInt = 2 := by decide
          rw [inF_iff]
          omega
        refine e_aload_n (pc := 20) Xc (dT hX6_mean 10 rfl) 0 rfl ?_
        refine e_iload_n (pc := 21) Xc (dT hX6_mean 11 rfl) 1 rfl ?_
        refine cl_X6_171 (pc := 22) (k := 0) (n := 0) (S := []) Xc hx.o (c6_goOn hx ⟨Fw1, Tw1, Aw1, hBw1, htw1⟩ ht13 hP5 hdy hd0 kn_ (by omega)) (dT hX6_mean 12 rfl) rfl (Nat.le_of_ble_eq_true rfl) (Nat.le_of_ble_eq_true rfl) (Nat.le_of_ble_eq_true rfl) rfl (Nat.le_of_ble_eq_true rfl) (fun r5 σ6 hq7 => ?_)
        obtain ⟨r5e, hT8, ho9⟩ := hq7
        have r5e := r5e.symm; subst r5e
        have hP10 := hx.off ho9 (by omega)
        have hP11 := hPp.off ho9 (by omega)
        have hP12 := hPg.off ho9 (by omega)
        have hP13 := hPa.off ho9 (by omega)
        have hB14 := hBw1.off ho9 (by omega) (by rw [htw1]; omega)
        obtain ⟨lnw15, hXw15, hdlw15, hd0w15, hbtw15⟩ := id hT8
        obtain ⟨Fw15, Tw15, Aw15, hBw15, htw15⟩ := id hXw15
        have hWw15 := hBw15.2.1
        refine e_pop (pc := 25) Xc (dT hX6_mean 13 rfl) rfl ?_
        refine e_aload_n (pc := 26) Xc (dT hX6_mean 14 rfl) 0 rfl ?_
        refine gf_X6_18 (pc := 27) Xc (dT hX6_mean 15 rfl) hP10.o rfl ?_
        refine cl_X6_152 (pc := 30) (k := 0) (n := 0) (S := []) Xc hBw15.1.o (c5_shelf hBw15) (dT hX6_mean 16 rfl) rfl (Nat.le_of_ble_eq_true rfl) (Nat.le_of_ble_eq_true rfl) (Nat.le_of_ble_eq_true rfl) rfl (Nat.le_of_ble_eq_true rfl) (fun r16 σ17 hq18 => ?_)
        obtain ⟨r16e, r16s⟩ := hq18
        have r16e := r16e.symm; subst r16e; have r16s := r16s.symm; subst r16s
        have hsl_ := shN_lt (X := (daysF X t nr nb kn_).2) (nr := nr) (nb := nb) hb7
        refine e_val (y := nI (shN (daysF X t nr nb kn_).2 nr nb)) (shN_eq hb7) ?_
        refine cl_X6_258 (pc := 33) (k := 0) (n := 0) (S := []) Xc (c_bitCount (shN (daysF X t nr nb kn_).2 nr nb) hsl_) (dT hX6_mean 17 rfl) rfl (Nat.le_of_ble_eq_true rfl) (Nat.le_of_ble_eq_true rfl) (Nat.le_of_ble_eq_true rfl) rfl (Nat.le_of_ble_eq_true rfl) (fun r19 σ20 hq21 => ?_)
        obtain ⟨r19e, r19s⟩ := hq21
        have r19e := r19e.symm; subst r19e; have r19s := r19s.symm; subst r19s
        have hpl_ := popN_le (S := shN (daysF X t nr nb kn_).2 nr nb) 7
        refine e_istore_n (L' := [(3, .int (nI (popN (shN (daysF X t nr nb kn_).2 nr nb) 7))), (0, .ref x), (1, .int (nI kn_)), (2, .int part)]) (pc := 36) Xc (dT hX6_mean 18 rfl) (by decide) rfl ?_
        refine e_iload_n (pc := 37) Xc (dT hX6_mean 19 rfl) 0 rfl ?_
        refine e_if_ne (tgt := 47) (pc := 38) Xc (dT hX6_mean 20 rfl) rfl (fun c38 => ?_) (fun c38 => ?_)
        · skip
          have hn0_ : ¬ popN (shN (daysF X t nr nb kn_).2 nr nb) 7 = 0 := fun e_ => c38 (by rw [e_]; rfl)
          obtain ⟨hth_, hth9_⟩ := thN_eq (X := (daysF X t nr nb kn_).2) (days_ok hG hT kn_).1
          refine e_aload_n (pc := 47) Xc (dT hX6_mean 23 rfl) 1 rfl ?_
          refine gf_X6_18 (pc := 48) Xc (dT hX6_mean 24 rfl) hP10.o rfl ?_
          refine cl_X6_228 (pc := 51) (k := 0) (n := 0) (S := []) Xc hBw15.1.o (c5_shelfThick hBw15) (dT hX6_mean 25 rfl) rfl (Nat.le_of_ble_eq_true rfl) (Nat.le_of_ble_eq_true rfl) (Nat.le_of_ble_eq_true rfl) rfl (Nat.le_of_ble_eq_true rfl) (fun r22 σ23 hq24 => ?_)
          obtain ⟨r22e, r22s⟩ := hq24
          have r22e := r22e.symm; subst r22e; have r22s := r22s.symm; subst r22s
          refine e_val (y := nI (thN (daysF X t nr nb kn_).2 nr nb)) hth_ ?_
          refine e_iload_n (pc := 54) Xc (dT hX6_mean 26 rfl) 0 rfl ?_
          refine e_iload_n (pc := 55) Xc (dT hX6_mean 27 rfl) 3 rfl ?_
          refine cl_X6_254 (pc := 56) (k := 0) (n := 0) (S := []) Xc (c6_fraction (thN (daysF X t nr nb kn_).2 nr nb) (popN (shN (daysF X t nr nb kn_).2 nr nb) 7) (by omega) (by omega) (by omega) part) (dT hX6_mean 28 rfl) rfl (Nat.le_of_ble_eq_true rfl) (Nat.le_of_ble_eq_true rfl) (Nat.le_of_ble_eq_true rfl) rfl (Nat.le_of_ble_eq_true rfl) (fun r25 σ26 hq27 => ?_)
          obtain ⟨r25e, r25s⟩ := hq27
          have r25e := r25e.symm; subst r25e; have r25s := r25s.symm; subst r25s
          refine e_lret (pc := 59) Xc hQ (dT hX6_mean 29 rfl) (Nat.le_refl _) (Nat.le_refl _) ?_
          have hin40_ : inF (nI kn_) 0 40 = true := by
            rw [inF_iff, nI_toInt (by omega)]
            have l0_ : (0 : Int32).toInt = 0 := by decide
            have l40_ : (40 : Int32).toInt = 40 := by decide
            omega
          have hz : v_mean X t nr nb (nI kn_) part = loF (thN (daysF X t nr nb kn_).2 nr nb) (popN (shN (daysF X t nr nb kn_).2 nr nb) 7) part := by rw [v_mean, if_pos ⟨hin40_, hin_part⟩, hc_kn_]; exact if_neg hn0_
          obtain ⟨hb_, ho_⟩ := hB.asks (OffS.of (S := fun o => o = x + 13 ∨ o = x + 55) ho9 (Or.inl rfl)) ⟨_, _, _, hBw15.1⟩ ⟨_, _, _, hP12⟩
          exact ⟨hz.symm, hb_, ho_⟩
        · skip
          have hn0_ : popN (shN (daysF X t nr nb kn_).2 nr nb) 7 = 0 := (nI_eq (by omega) (by decide)).mp c38
          refine e_ldc2 (pc := 41) Xc (dT hX6_mean 21 rfl) w_k_X6_252 ?_
          refine e_goto (tgt := 59) (pc := 44) Xc (dT hX6_mean 22 rfl) rfl ?_
          refine e_lret (pc := 59) Xc hQ (dT hX6_mean 29 rfl) (Nat.le_refl _) (Nat.le_refl _) ?_
          have hin40_ : inF (nI kn_) 0 40 = true := by
            rw [inF_iff, nI_toInt (by omega)]
            have l0_ : (0 : Int32).toInt = 0 := by decide
            have l40_ : (40 : Int32).toInt = 40 := by decide
            omega
          have hz : v_mean X t nr nb (nI kn_) part = (-9223372036854775808) := by rw [v_mean, if_pos ⟨hin40_, hin_part⟩, hc_kn_]; exact if_pos hn0_
          obtain ⟨hb_, ho_⟩ := hB.asks (OffS.of (S := fun o => o = x + 13 ∨ o = x + 55) ho9 (Or.inl rfl)) ⟨_, _, _, hBw15.1⟩ ⟨_, _, _, hP12⟩
          exact ⟨hz.symm, hb_, ho_⟩
      · skip
        have hin_part : inF part 0 1 = false := by
          have k8_ := c8
          have k13_ := c13
          simp only [Int32.lt_iff_toInt_lt, Int32.le_iff_toInt_le] at k8_ k13_
          have l0_ : (0 : Int32).toInt = 0 := by decide
          have l1_ : (1 : Int32).toInt = 1 := by decide
          have l2_ : (2 : Int32).toInt = 2 := by decide
          rw [inF_ff]
          omega
        refine e_ldc2 (pc := 16) Xc (dT hX6_mean 8 rfl) w_k_X6_252 ?_
        refine e_lret (pc := 19) Xc hQ (dT hX6_mean 9 rfl) (Nat.le_refl _) (Nat.le_refl _) ?_
        have hz : v_mean X t nr nb (nI kn_) part = -9223372036854775808 := by rw [v_mean, if_neg (fun e_ => by rw [hin_part] at e_; exact Bool.noConfusion e_.2)]
        exact ⟨hz.symm, hB, OffB.rf⟩
set_option maxRecDepth 100000 in
set_option maxHeartbeats 4000000 in
theorem c6_fol0 {G : xG} {σ : xS} {x : Nat} {Fx : Nat → Int32} {Ax : Nat → Nat → Int32} (hx : PX6 σ x Fx (t6 x) Ax) {tw nr nb dk : Nat} {Y : Nat → Int32} {t : xT} (hWt : WL σ (x + 13) tw Y nr nb t dk) (hdk : dk < 20000) (hr4 : nr ≤ 4) (q : Nat) (hq : q < nr) : CV G yX6_follow cX6_follow 3 none 7 0 0 [.ref x, .int 0, .int (nI q)] σ (fun σ1 => (∃ d1, WL σ1 (x + 13) tw (doesF Y t nr nb 0 (nI q)) nr nb t d1 ∧ d1 ≤ dk + 1) ∧ Off (x + 13) σ σ1) := by
  refine Met.ofX (by decide +kernel) (Nat.le_of_ble_eq_true rfl) (fun μ Xc hQ hnm => ?_)
  have Xc : xC G μ cX6_follow 3 RX6 none 7 0 0 := Xc
  show Ev G μ 3 0 0 0 [(0, .ref x), (1, .int 0), (2, .int (nI q))] [] σ
  obtain ⟨lnw1, hXw1, hdlw1, hd0w1, hbtw1⟩ := id hWt
  obtain ⟨Fw1, Tw1, Aw1, hBw1, htw1⟩ := id hXw1
  have hWw1 := hBw1.2.1
  refine e_iload_n (pc := 0) Xc (dT hX6_follow 0 rfl) 1 rfl ?_
  refine e_tableIn (x := 0) (off := 27) (tgt := 28) (pc := 1) Xc (dT hX6_follow 1 rfl) (by decide) (by decide) rfl rfl ?_
  refine e_aload_n (pc := 28) Xc (dT hX6_follow 2 rfl) 0 rfl ?_
  refine gf_X6_18 (pc := 29) Xc (dT hX6_follow 3 rfl) hx.o rfl ?_
  refine e_iload_n (pc := 32) Xc (dT hX6_follow 4 rfl) 2 rfl ?_
  refine cl_X6_158 (pc := 33) (k := 0) (n := 0) (S := []) Xc hBw1.1.o (c5_comes ⟨Fw1, Tw1, Aw1, hBw1, htw1⟩ ⟨_, hdlw1, hd0w1, hbtw1⟩ q hq) (dT hX6_follow 5 rfl) rfl (Nat.le_of_ble_eq_true rfl) (Nat.le_of_ble_eq_true rfl) (Nat.le_of_ble_eq_true rfl) rfl (Nat.le_of_ble_eq_true rfl) (fun r2 σ3 hq4 => ?_)
  obtain ⟨r2e, hT5, ho6⟩ := hq4
  have hP7 := hx.off ho6 (by omega)
  refine e_pop (pc := 36) Xc (dT hX6_follow 6 rfl) rfl ?_
  refine e_goto (tgt := 72) (pc := 37) Xc (dT hX6_follow 7 rfl) rfl ?_
  refine e_vret (pc := 72) Xc hQ (dT hX6_follow 24 rfl) (Nat.le_refl _) (Nat.le_refl _) ?_
  exact ⟨⟨dk, by rw [does_0 (by omega)]; exact ⟨lnw1, hT5, hdlw1, ((upd_n (by omega)).trans hd0w1), hbtw1⟩, by omega⟩, ho6⟩
set_option maxRecDepth 100000 in
set_option maxHeartbeats 4000000 in
theorem c6_fol1 {G : xG} {σ : xS} {x : Nat} {Fx : Nat → Int32} {Ax : Nat → Nat → Int32} (hx : PX6 σ x Fx (t6 x) Ax) {tw nr nb dk : Nat} {Y : Nat → Int32} {t : xT} (hWt : WL σ (x + 13) tw Y nr nb t dk) (hdk : dk < 20000) (hr4 : nr ≤ 4) (q : Nat) (hq : q < nr) : CV G yX6_follow cX6_follow 3 none 7 0 0 [.ref x, .int 1, .int (nI q)] σ (fun σ1 => (∃ d1, WL σ1 (x + 13) tw (doesF Y t nr nb 1 (nI q)) nr nb t d1 ∧ d1 ≤ dk + 1) ∧ Off (x + 13) σ σ1) := by
  refine Met.ofX (by decide +kernel) (Nat.le_of_ble_eq_true rfl) (fun μ Xc hQ hnm => ?_)
  have Xc : xC G μ cX6_follow 3 RX6 none 7 0 0 := Xc
  show Ev G μ 3 0 0 0 [(0, .ref x), (1, .int 1), (2, .int (nI q))] [] σ
  obtain ⟨lnw1, hXw1, hdlw1, hd0w1, hbtw1⟩ := id hWt
  obtain ⟨Fw1, Tw1, Aw1, hBw1, htw1⟩ := id hXw1
  have hWw1 := hBw1.2.1
  refine e_iload_n (pc := 0) Xc (dT hX6_follow 0 rfl) 1 rfl ?_
  refine e_tableIn (x := 1) (off := 39) (tgt := 40) (pc := 1) Xc (dT hX6_follow 1 rfl) (by decide) (by decide) rfl rfl ?_
  refine e_aload_n (pc := 40) Xc (dT hX6_follow 8 rfl) 0 rfl ?_
  refine gf_X6_18 (pc := 41) Xc (dT hX6_follow 9 rfl) hx.o rfl ?_
  refine e_iload_n (pc := 44) Xc (dT hX6_follow 10 rfl) 2 rfl ?_
  refine e_iconst (v := 1) (pc := 45) Xc (dT hX6_follow 11 rfl) rfl ?_
  refine cl_X6_161 (pc := 46) (k := 0) (n := 0) (S := []) Xc hBw1.1.o (c5_bind ⟨Fw1, Tw1, Aw1, hBw1, htw1⟩ hdlw1 hd0w1 q hq 1) (dT hX6_follow 12 rfl) rfl (Nat.le_of_ble_eq_true rfl) (Nat.le_of_ble_eq_true rfl) (Nat.le_of_ble_eq_true rfl) rfl (Nat.le_of_ble_eq_true rfl) (fun σ3 hq4 => ?_)
  obtain ⟨l_, hT5, hl_, ho6⟩ := hq4
  have hP7 := hx.off ho6 (by omega)
  refine e_goto (tgt := 72) (pc := 49) Xc (dT hX6_follow 13 rfl) rfl ?_
  refine e_vret (pc := 72) Xc hQ (dT hX6_follow 24 rfl) (Nat.le_refl _) (Nat.le_refl _) ?_
  exact ⟨⟨dk, by rw [does_1 (by omega)]; exact ⟨l_, hT5, hdlw1, ((past_lo (by decide)).trans hd0w1), hl_ hbtw1⟩, by omega⟩, ho6⟩
set_option maxRecDepth 100000 in
set_option maxHeartbeats 4000000 in
theorem c6_fol2 {G : xG} {σ : xS} {x : Nat} {Fx : Nat → Int32} {Ax : Nat → Nat → Int32} (hx : PX6 σ x Fx (t6 x) Ax) {tw nr nb dk : Nat} {Y : Nat → Int32} {t : xT} (hWt : WL σ (x + 13) tw Y nr nb t dk) (hdk : dk < 20000) (hr4 : nr ≤ 4) (q : Nat) (hq : q < nr) : CV G yX6_follow cX6_follow 3 none 7 0 0 [.ref x, .int 2, .int (nI q)] σ (fun σ1 => (∃ d1, WL σ1 (x + 13) tw (doesF Y t nr nb 2 (nI q)) nr nb t d1 ∧ d1 ≤ dk + 1) ∧ Off (x + 13) σ σ1) := by
  refine Met.ofX (by decide +kernel) (Nat.le_of_ble_eq_true rfl) (fun μ Xc hQ hnm => ?_)
  have Xc : xC G μ cX6_follow 3 RX6 none 7 0 0 := Xc
  show Ev G μ 3 0 0 0 [(0, .ref x), (1, .int 2), (2, .int (nI q))] [] σ
  obtain ⟨lnw1, hXw1, hdlw1, hd0w1, hbtw1⟩ := id hWt
  obtain ⟨Fw1, Tw1, Aw1, hBw1, htw1⟩ := id hXw1
  have hWw1 := hBw1.2.1
  refine e_iload_n (pc := 0) Xc (dT hX6_follow 0 rfl) 1 rfl ?_
  refine e_tableIn (x := 2) (off := 51) (tgt := 52) (pc := 1) Xc (dT hX6_follow 1 rfl) (by decide) (by decide) rfl rfl ?_
  refine e_aload_n (pc := 52) Xc (dT hX6_follow 14 rfl) 0 rfl ?_
  refine gf_X6_18 (pc := 53) Xc (dT hX6_follow 15 rfl) hx.o rfl ?_
  refine e_iload_n (pc := 56) Xc (dT hX6_follow 16 rfl) 2 rfl ?_
  refine e_iconst (v := 0) (pc := 57) Xc (dT hX6_follow 17 rfl) rfl ?_
  refine cl_X6_161 (pc := 58) (k := 0) (n := 0) (S := []) Xc hBw1.1.o (c5_bind ⟨Fw1, Tw1, Aw1, hBw1, htw1⟩ hdlw1 hd0w1 q hq 0) (dT hX6_follow 18 rfl) rfl (Nat.le_of_ble_eq_true rfl) (Nat.le_of_ble_eq_true rfl) (Nat.le_of_ble_eq_true rfl) rfl (Nat.le_of_ble_eq_true rfl) (fun σ3 hq4 => ?_)
  obtain ⟨l_, hT5, hl_, ho6⟩ := hq4
  have hP7 := hx.off ho6 (by omega)
  refine e_goto (tgt := 72) (pc := 61) Xc (dT hX6_follow 19 rfl) rfl ?_
  refine e_vret (pc := 72) Xc hQ (dT hX6_follow 24 rfl) (Nat.le_refl _) (Nat.le_refl _) ?_
  exact ⟨⟨dk, by rw [does_2 (by omega)]; exact ⟨l_, hT5, hdlw1, ((past_lo (by decide)).trans hd0w1), hl_ hbtw1⟩, by omega⟩, ho6⟩
set_option maxRecDepth 100000 in
set_option maxHeartbeats 4000000 in
theorem c6_fol3 {G : xG} {σ : xS} {x : Nat} {Fx : Nat → Int32} {Ax : Nat → Nat → Int32} (hx : PX6 σ x Fx (t6 x) Ax) {tw nr nb dk : Nat} {Y : Nat → Int32} {t : xT} (hWt : WL σ (x + 13) tw Y nr nb t dk) (hdk : dk < 20000) (hr4 : nr ≤ 4) (v : Int32) : CV G yX6_follow cX6_follow 3 none 7 0 0 [.ref x, .int 3, .int v] σ (fun σ1 => (∃ d1, WL σ1 (x + 13) tw (doesF Y t nr nb 3 v) nr nb t d1 ∧ d1 ≤ dk + 1) ∧ Off (x + 13) σ σ1) := by
  refine Met.ofX (by decide +kernel) (Nat.le_of_ble_eq_true rfl) (fun μ Xc hQ hnm => ?_)
  have Xc : xC G μ cX6_follow 3 RX6 none 7 0 0 := Xc
  show Ev G μ 3 0 0 0 [(0, .ref x), (1, .int 3), (2, .int v)] [] σ
  obtain ⟨lnw1, hXw1, hdlw1, hd0w1, hbtw1⟩ := id hWt
  obtain ⟨Fw1, Tw1, Aw1, hBw1, htw1⟩ := id hXw1
  have hWw1 := hBw1.2.1
  refine e_iload_n (pc := 0) Xc (dT hX6_follow 0 rfl) 1 rfl ?_
  refine e_tableOut (x := 3) (tgt := 64) (pc := 1) Xc (dT hX6_follow 1 rfl) (by decide) rfl ?_
  refine e_aload_n (pc := 64) Xc (dT hX6_follow 20 rfl) 0 rfl ?_
  refine gf_X6_18 (pc := 65) Xc (dT hX6_follow 21 rfl) hx.o rfl ?_
  refine cl_X6_168 (pc := 68) (k := 0) (n := 0) (S := []) Xc hBw1.1.o (c5_goDay ⟨lnw1, ⟨Fw1, Tw1, Aw1, hBw1, htw1⟩, hdlw1, hd0w1, hbtw1⟩ hdk) (dT hX6_follow 22 rfl) rfl (Nat.le_of_ble_eq_true rfl) (Nat.le_of_ble_eq_true rfl) (Nat.le_of_ble_eq_true rfl) rfl (Nat.le_of_ble_eq_true rfl) (fun r2 σ3 hq4 => ?_)
  obtain ⟨r2e, hT5, ho6⟩ := hq4
  have hP7 := hx.off ho6 (by omega)
  refine e_pop (pc := 71) Xc (dT hX6_follow 23 rfl) rfl ?_
  refine e_vret (pc := 72) Xc hQ (dT hX6_follow 24 rfl) (Nat.le_refl _) (Nat.le_refl _) ?_
  exact ⟨⟨dk + 1, by rw [does_3]; exact hT5, by omega⟩, ho6⟩
theorem c6_follow {G : xG} {σ : xS} {x : Nat} {Fx : Nat → Int32} {Ax : Nat → Nat → Int32} (hx : PX6 σ x Fx (t6 x) Ax) {tw nr nb dk : Nat} {Y : Nat → Int32} {t : xT} (hWt : WL σ (x + 13) tw Y nr nb t dk) (hdk : dk < 20000) (hr4 : nr ≤ 4) (w : Nat) (hw : w ≤ 3) (v : Int32) (hv : w < 3 → ∃ q, q < nr ∧ v = nI q) : CV G yX6_follow cX6_follow 3 none 7 0 0 [.ref x, .int (nI w), .int v] σ (fun σ1 => (∃ d1, WL σ1 (x + 13) tw (doesF Y t nr nb (nI w) v) nr nb t d1 ∧ d1 ≤ dk + 1) ∧ Off (x + 13) σ σ1) := by
  have hc_ : w = 0 ∨ w = 1 ∨ w = 2 ∨ w = 3 := by omega
  rcases hc_ with rfl | rfl | rfl | rfl
  · obtain ⟨q, hq, rfl⟩ := hv (by decide); exact c6_fol0 hx hWt hdk hr4 q hq
  · obtain ⟨q, hq, rfl⟩ := hv (by decide); exact c6_fol1 hx hWt hdk hr4 q hq
  · obtain ⟨q, hq, rfl⟩ := hv (by decide); exact c6_fol2 hx hWt hdk hr4 q hq
  · exact c6_fol3 hx hWt hdk hr4 v
set_option maxRecDepth 100000 in
set_option maxHeartbeats 4000000 in
theorem b_done {G : xG} {σ : xS} {x m : Nat} {X Y bd : Nat → Int32} {hi : Int32} {rr : Nat} {nr nb ns np nn nt na dy : Nat} {t : xT} (hB : BK G σ x m X Y bd hi rr nr nb ns np nn nt t) (hK : OK X nr nb t ns np nn nt na dy) (w : Int32) : CI G yX6_done cX6_done 3 (some .int) 8 0 0 [.ref x, .int w] σ (fun z σ1 => z = v_done X t nr nb np w ∧ BK G σ1 x m X Y bd hi rr nr nb ns np nn nt t ∧ OffB x σ σ1) := by
  refine Met.ofX (by decide +kernel) (Nat.le_of_ble_eq_true rfl) (fun μ Xc hQ hnm => ?_)
  have Xc : xC G μ cX6_done 3 RX6 (some .int) 8 0 0 := Xc
  obtain ⟨hSA, ⟨hgA, hgO⟩, hxm, hms, ⟨Fx, Ax, hx, hF7⟩, ⟨tw, htw, hXn⟩, ⟨F5, T5, A5, hP5⟩, ⟨Fp, Tp, Ap, hPp, hRP⟩, ⟨Fg, Tg, Ag, hPg⟩, ⟨Fa, Ta, Aa, hPa, hFa1, hAa⟩, hBI⟩ := id hB
  obtain ⟨htw1, htw2, htw3⟩ := id htw
  obtain ⟨hG, hT, hS, hPl, hNo, hTa, hA, hJ, hR, hD⟩ := id hK
  have hr4 := hG.r4
  have hb7 := hG.b7
  have hs6 := hS.1
  have hp8 := hPl.1
  have hn8 := hNo.1
  have ht100 := hTa.1
  have ha5 := hA.1
  have hdy := hD.1
  have hd0 := hD.2
  have ht13 : tw ≠ x + 13 := by omega
  have hb8 : ns ≤ 6 ∧ np ≤ 8 ∧ nn ≤ 8 ∧ nt ≤ 100 := ⟨hs6, hp8, hn8, ht100⟩
  show Ev G μ 3 0 0 0 [(0, .ref x), (1, .int w)] [] σ
  obtain ⟨Fw1, Tw1, Aw1, hBw1, htw1⟩ := id hXn
  have hWw1 := hBw1.2.1
  refine e_iload_n (pc := 0) Xc (dT hX6_done 0 rfl) 1 rfl ?_
  refine e_if_lt (tgt := 9) (pc := 1) Xc (dT hX6_done 1 rfl) rfl (fun c1 => ?_) (fun c1 => ?_)
  · skip
    have hin_w : inF w 0 1 = false := by
      have k1_ := c1
      simp only [Int32.lt_iff_toInt_lt, Int32.le_iff_toInt_le] at k1_
      have l0_ : (0 : Int32).toInt = 0 := by decide
      have l1_ : (1 : Int32).toInt = 1 := by decide
      have l2_ : (2 : Int32).toInt = 2 := by decide
      rw [inF_ff]
      omega
    refine e_sipush (v := -10001) (pc := 9) Xc (dT hX6_done 5 rfl) rfl ?_
    refine e_iret (pc := 12) Xc hQ (dT hX6_done 6 rfl) (Nat.le_refl _) (Nat.le_refl _) ?_
    have hz : v_done X t nr nb np w = (-10001) := by
      try simp only [bI_0, bI_1, Bool.not_eq_true, Bool.not_eq_false] at c1
      first | (simp [v_done, c1, hin_w]; done) | (clear hB hK hSA hx hXn hP5 hPp hRP hPg hPa hBI hG hT hS hPl hNo hTa hA hJ hR hD hQ Xc; simp_all [v_done]; done)
    exact ⟨hz.symm, hB, OffB.rf⟩
  · skip
    refine e_iload_n (pc := 4) Xc (dT hX6_done 2 rfl) 1 rfl ?_
    refine e_iconst (v := 1) (pc := 5) Xc (dT hX6_done 3 rfl) rfl ?_
    refine e_icmp_le (tgt := 13) (pc := 6) Xc (dT hX6_done 4 rfl) rfl (fun c6 => ?_) (fun c6 => ?_)
    · skip
      have hin_w : inF w 0 1 = true := by
        have k1_ := c1
        have k6_ := c6
        simp only [Int32.lt_iff_toInt_lt, Int32.le_iff_toInt_le] at k1_ k6_
        have l0_ : (0 : Int32).toInt = 0 := by decide
        have l1_ : (1 : Int32).toInt = 1 := by decide
        have l2_ : (2 : Int32).toInt = 2 := by decide
        rw [inF_iff]
        omega
      refine e_aload_n (pc := 13) Xc (dT hX6_done 7 rfl) 0 rfl ?_
      refine cl_X6_116 (pc := 14) (k := 0) (n := 0) (S := []) Xc hx.o (c6_fresh hx ⟨Fw1, Tw1, Aw1, hBw1, htw1⟩ ht13 hP5 hdy hd0) (dT hX6_done 8 rfl) rfl (Nat.le_of_ble_eq_true rfl) (Nat.le_of_ble_eq_true rfl) (Nat.le_of_ble_eq_true rfl) rfl (Nat.le_of_ble_eq_true rfl) (fun σ3 hq4 => ?_)
      obtain ⟨hT5, ho6⟩ := hq4
      have hP7 := hx.off ho6 (by omega)
      have hP8 := hPp.off ho6 (by omega)
      have hP9 := hPg.off ho6 (by omega)
      have hP10 := hPa.off ho6 (by omega)
      have hB11 := hBw1.off ho6 (by omega) (by rw [htw1]; omega)
      obtain ⟨lnw12, hXw12, hdlw12, hd0w12, hbtw12⟩ := id hT5
      obtain ⟨Fw12, Tw12, Aw12, hBw12, htw12⟩ := id hXw12
      have hWw12 := hBw12.2.1
      refine e_iconst (v := 0) (pc := 17) Xc (dT hX6_done 9 rfl) rfl ?_
      refine e_istore_n (L' := [(2, .int 0), (0, .ref x), (1, .int w)]) (pc := 18) Xc (dT hX6_done 10 rfl) (by decide) rfl ?_
      have lp19 : ∀ (n19 : Nat) (p_ dk_ : Nat) (σ2 : xS), np - p_ < n19 → (p_ ≤ np) → (dk_ ≤ dy + p_) → (WL σ2 (x + 13) tw (doN X t nr nb p_) nr nb t dk_) → (Off (x + 13) σ3 σ2) → Ev G μ 3 0 0 19 [(0, .ref x), (1, .int w), (2, .int (nI p_))] [] σ2 := by
        intro n19
        induction n19 with
        | zero => intro p_ dk_ σ2 hn; exact absurd hn (Nat.not_lt_zero _)
        | succ n19 ih19 =>
          intro p_ dk_ σ2 hn19 hp_ hdk_ hT2 hO2
          have hP13 := hP7.off hO2 (by omega)
          have hP14 := hP8.off hO2 (by omega)
          have hP15 := hP9.off hO2 (by omega)
          have hP16 := hP10.off hO2 (by omega)
          have hB17 := hB11.off hO2 (by omega) (by rw [htw1]; omega)
          obtain ⟨lnw18, hXw18, hdlw18, hd0w18, hbtw18⟩ := id hT2
          obtain ⟨Fw18, Tw18, Aw18, hBw18, htw18⟩ := id hXw18
          have hWw18 := hBw18.2.1
          refine e_iload_n (pc := 19) Xc (dT hX6_done 11 rfl) 2 rfl ?_
          refine e_aload_n (pc := 20) Xc (dT hX6_done 12 rfl) 0 rfl ?_
          refine gf_X6_27 (pc := 21) Xc (dT hX6_done 13 rfl) hP13.o rfl ?_
          refine gf_X6_263 (pc := 24) Xc (dT hX6_done 14 rfl) hP14.o rfl ?_
          refine e_val (y := nI np) hRP.2.2.1 ?_
          refine e_icmp_geN (x := p_) (y := np) (tgt := 62) (pc := 27) Xc (dT hX6_done 15 rfl) rfl (by omega) (by omega) (fun c27 => ?_) (fun c27 => ?_)
          · skip
            have hpe_ : p_ = np := by omega
            subst hpe_
            refine e_iload_n (pc := 62) Xc (dT hX6_done 30 rfl) 1 rfl ?_
            refine e_if_ne (tgt := 76) (pc := 63) Xc (dT hX6_done 31 rfl) rfl (fun c63 => ?_) (fun c63 => ?_)
            · skip
              refine e_aload_n (pc := 76) Xc (dT hX6_done 36 rfl) 0 rfl ?_
              refine gf_X6_18 (pc := 77) Xc (dT hX6_done 37 rfl) hP13.o rfl ?_
              refine cl_X6_152 (pc := 80) (k := 0) (n := 0) (S := []) Xc hBw18.1.o (c5_shelf hBw18) (dT hX6_done 38 rfl) rfl (Nat.le_of_ble_eq_true rfl) (Nat.le_of_ble_eq_true rfl) (Nat.le_of_ble_eq_true rfl) rfl (Nat.le_of_ble_eq_true rfl) (fun r19 σ20 hq21 => ?_)
              obtain ⟨r19e, r19s⟩ := hq21
              have r19e := r19e.symm; subst r19e; have r19s := r19s.symm; subst r19s
              refine e_iret (pc := 83) Xc hQ (dT hX6_done 39 rfl) (Nat.le_refl _) (Nat.le_refl _) ?_
              have hz : v_done X t nr nb p_ w = shelfF (doN X t nr nb p_) nr nb := by rw [v_done, if_pos hin_w, if_neg c63]
              obtain ⟨hb_, ho_⟩ := hB.asks ((OffS.of (S := fun o => o = x + 13 ∨ o = x + 55) ho6 (Or.inl rfl)).tr (OffS.of (S := fun o => o = x + 13 ∨ o = x + 55) hO2 (Or.inl rfl))) ⟨_, _, _, hBw18.1⟩ ⟨_, _, _, hP15⟩
              exact ⟨hz.symm, hb_, ho_⟩
            · skip
              refine e_aload_n (pc := 66) Xc (dT hX6_done 32 rfl) 0 rfl ?_
              refine gf_X6_18 (pc := 67) Xc (dT hX6_done 33 rfl) hP13.o rfl ?_
              refine cl_X6_148 (pc := 70) (k := 0) (n := 0) (S := []) Xc hBw18.1.o (c5_total hBw18 ⟨_, hdlw18, hd0w18, hbtw18⟩) (dT hX6_done 34 rfl) rfl (Nat.le_of_ble_eq_true rfl) (Nat.le_of_ble_eq_true rfl) (Nat.le_of_ble_eq_true rfl) rfl (Nat.le_of_ble_eq_true rfl) (fun r22 σ23 hq24 => ?_)
              obtain ⟨r22e, r22s⟩ := hq24
              have r22e := r22e.symm; subst r22e; have r22s := r22s.symm; subst r22s
              refine e_goto (tgt := 83) (pc := 73) Xc (dT hX6_done 35 rfl) rfl ?_
              refine e_iret (pc := 83) Xc hQ (dT hX6_done 39 rfl) (Nat.le_refl _) (Nat.le_refl _) ?_
              have hz : v_done X t nr nb p_ w = totF (doN X t nr nb p_) t nr := by rw [v_done, if_pos hin_w, if_pos c63]
              obtain ⟨hb_, ho_⟩ := hB.asks ((OffS.of (S := fun o => o = x + 13 ∨ o = x + 55) ho6 (Or.inl rfl)).tr (OffS.of (S := fun o => o = x + 13 ∨ o = x + 55) hO2 (Or.inl rfl))) ⟨_, _, _, hBw18.1⟩ ⟨_, _, _, hP15⟩
              exact ⟨hz.symm, hb_, ho_⟩
          · skip
            obtain ⟨w_, hw3_, hwe_, hwv_⟩ := hPl.2.2 p_ (by omega)
            obtain ⟨hr1_, hr2_⟩ := hRP.2.2.2.2.2.2.1 p_ (by omega)
            refine e_aload_n (pc := 30) Xc (dT hX6_done 16 rfl) 0 rfl ?_
            refine e_aload_n (pc := 31) Xc (dT hX6_done 17 rfl) 0 rfl ?_
            refine gf_X6_27 (pc := 32) Xc (dT hX6_done 18 rfl) hP13.o rfl ?_
            refine gf_X6_266 (pc := 35) Xc (dT hX6_done 19 rfl) hP14.o rfl ?_
            refine e_iload_n (pc := 38) Xc (dT hX6_done 20 rfl) 2 rfl ?_
            refine cl_X6_106 (pc := 39) (k := 0) (n := 0) (S := [.ref x]) Xc (c_get hP14.a5 (by decide) (by decide) p_ (by omega)) (dT hX6_done 21 rfl) rfl (Nat.le_of_ble_eq_true rfl) (Nat.le_of_ble_eq_true rfl) (Nat.le_of_ble_eq_true rfl) rfl (Nat.le_of_ble_eq_true rfl) (fun r25 σ26 hq27 => ?_)
            obtain ⟨r25e, r25s⟩ := hq27
            have r25e := r25e.symm; subst r25e; have r25s := r25s.symm; subst r25s
            refine e_val (y := nI w_) (hr1_.trans hwe_) ?_
            refine e_aload_n (pc := 42) Xc (dT hX6_done 22 rfl) 0 rfl ?_
            refine gf_X6_27 (pc := 43) Xc (dT hX6_done 23 rfl) hP13.o rfl ?_
            refine gf_X6_269 (pc := 46) Xc (dT hX6_done 24 rfl) hP14.o rfl ?_
            refine e_iload_n (pc := 49) Xc (dT hX6_done 25 rfl) 2 rfl ?_
            refine cl_X6_106 (pc := 50) (k := 0) (n := 0) (S := [.int (nI w_), .ref x]) Xc (c_get hP14.a6 (by decide) (by decide) p_ (by omega)) (dT hX6_done 26 rfl) rfl (Nat.le_of_ble_eq_true rfl) (Nat.le_of_ble_eq_true rfl) (Nat.le_of_ble_eq_true rfl) rfl (Nat.le_of_ble_eq_true rfl) (fun r28 σ29 hq30 => ?_)
            obtain ⟨r28e, r28s⟩ := hq30
            have r28e := r28e.symm; subst r28e; have r28s := r28s.symm; subst r28s
            refine e_val (y := X (70 + p_)) hr2_ ?_
            refine cl_X6_272 (pc := 53) (k := 0) (n := 0) (S := []) Xc hP13.o (c6_follow hP13 ⟨lnw18, ⟨Fw18, Tw18, Aw18, hBw18, htw18⟩, hdlw18, hd0w18, hbtw18⟩ (by omega) hr4 w_ hw3_ (X (70 + p_)) hwv_) (dT hX6_done 27 rfl) rfl (Nat.le_of_ble_eq_true rfl) (Nat.le_of_ble_eq_true rfl) (Nat.le_of_ble_eq_true rfl) rfl (Nat.le_of_ble_eq_true rfl) (fun σ32 hq33 => ?_)
            obtain ⟨⟨d1_, hT34, hd1_⟩, ho35⟩ := hq33
            rw [← hwe_] at hT34
            have hP36 := hP13.off ho35 (by omega)
            have hP37 := hP14.off ho35 (by omega)
            have hP38 := hP15.off ho35 (by omega)
            have hP39 := hP16.off ho35 (by omega)
            have hB40 := hB17.off ho35 (by omega) (by rw [htw1]; omega)
            obtain ⟨lnw41, hXw41, hdlw41, hd0w41, hbtw41⟩ := id hT34
            obtain ⟨Fw41, Tw41, Aw41, hBw41, htw41⟩ := id hXw41
            have hWw41 := hBw41.2.1
            refine e_iincN (a := p_) (b := 1) (L' := [(2, .int (nI (p_ + 1))), (0, .ref x), (1, .int w)]) (pc := 56) Xc (dT hX6_done 28 rfl) 2 rfl rfl (by decide) rfl ?_
            refine e_goto (tgt := 19) (pc := 59) Xc (dT hX6_done 29 rfl) rfl ?_
            refine Ev.pick (L' := [(0, .ref x), (1, .int w), (2, .int (nI (p_ + 1)))]) [1, 2, 0] rfl ?_
            exact ih19 (p_ + 1) d1_ σ32 (by omega) (by omega) (by omega) (⟨lnw41, ⟨Fw41, Tw41, Aw41, hBw41, htw41⟩, hdlw41, hd0w41, hbtw41⟩) (hO2.tr ho35)
      refine Ev.pick (L' := [(0, .ref x), (1, .int w), (2, .int 0)]) [1, 2, 0] rfl ?_
      exact lp19 ((np - 0) + 1) 0 dy σ3 (Nat.lt_succ_self _) (Nat.zero_le _) (by omega) (⟨lnw12, ⟨Fw12, Tw12, Aw12, hBw12, htw12⟩, hdlw12, hd0w12, hbtw12⟩) Off.rf
    · skip
      have hin_w : inF w 0 1 = false := by
        have k1_ := c1
        have k6_ := c6
        simp only [Int32.lt_iff_toInt_lt, Int32.le_iff_toInt_le] at k1_ k6_
        have l0_ : (0 : Int32).toInt = 0 := by decide
        have l1_ : (1 : Int32).toInt = 1 := by decide
        have l2_ : (2 : Int32).toInt = 2 := by decide
        rw [inF_ff]
        omega
      refine e_sipush (v := -10001) (pc := 9) Xc (dT hX6_done 5 rfl) rfl ?_
      refine e_iret (pc := 12) Xc hQ (dT hX6_done 6 rfl) (Nat.le_refl _) (Nat.le_refl _) ?_
      have hz : v_done X t nr nb np w = (-10001) := by
        try simp only [bI_0, bI_1, Bool.not_eq_true, Bool.not_eq_false] at c1 c6
        first | (simp [v_done, c1, c6, hin_w]; done) | (clear hB hK hSA hx hXn hP5 hPp hRP hPg hPa hBI hG hT hS hPl hNo hTa hA hJ hR hD hQ Xc; simp_all [v_done]; done)
      exact ⟨hz.symm, hB, OffB.rf⟩
set_option maxRecDepth 100000 in
set_option maxHeartbeats 4000000 in
theorem b_looked {G : xG} {σ : xS} {x m : Nat} {X Y bd : Nat → Int32} {hi : Int32} {rr : Nat} {nr nb ns np nn nt na dy : Nat} {t : xT} (hB : BK G σ x m X Y bd hi rr nr nb ns np nn nt t) (hK : OK X nr nb t ns np nn nt na dy)  : CI G yX6_looked cX6_looked 2 (some .int) 1 0 0 [.ref x] σ (fun z σ1 => z = v_looked X nn ∧ BK G σ1 x m X Y bd hi rr nr nb ns np nn nt t ∧ OffB x σ σ1) := by
  refine Met.ofX (by decide +kernel) (Nat.le_of_ble_eq_true rfl) (fun μ Xc hQ hnm => ?_)
  have Xc : xC G μ cX6_looked 2 RX6 (some .int) 1 0 0 := Xc
  obtain ⟨hSA, ⟨hgA, hgO⟩, hxm, hms, ⟨Fx, Ax, hx, hF7⟩, ⟨tw, htw, hXn⟩, ⟨F5, T5, A5, hP5⟩, ⟨Fp, Tp, Ap, hPp, hRP⟩, ⟨Fg, Tg, Ag, hPg⟩, ⟨Fa, Ta, Aa, hPa, hFa1, hAa⟩, hBI⟩ := id hB
  obtain ⟨htw1, htw2, htw3⟩ := id htw
  obtain ⟨hG, hT, hS, hPl, hNo, hTa, hA, hJ, hR, hD⟩ := id hK
  have hr4 := hG.r4
  have hb7 := hG.b7
  have hs6 := hS.1
  have hp8 := hPl.1
  have hn8 := hNo.1
  have ht100 := hTa.1
  have ha5 := hA.1
  have hdy := hD.1
  have hd0 := hD.2
  have ht13 : tw ≠ x + 13 := by omega
  have hb8 : ns ≤ 6 ∧ np ≤ 8 ∧ nn ≤ 8 ∧ nt ≤ 100 := ⟨hs6, hp8, hn8, ht100⟩
  show Ev G μ 2 0 0 0 [(0, .ref x)] [] σ
  obtain ⟨Fw1, Tw1, Aw1, hBw1, htw1⟩ := id hXn
  have hWw1 := hBw1.2.1
  refine e_iconst (v := 0) (pc := 0) Xc (dT hX6_looked 0 rfl) rfl ?_
  refine e_istore_n (L' := [(1, .int 0), (0, .ref x)]) (pc := 1) Xc (dT hX6_looked 1 rfl) (by decide) rfl ?_
  have lp2 : ∀ (n2 : Nat) (n_ : Nat), nn - n_ < n2 → (n_ ≤ nn) → (∀ i, i < n_ → looP X i = false) → Ev G μ 2 0 0 2 [(0, .ref x), (1, .int (nI n_))] [] σ := by
    intro n2
    induction n2 with
    | zero => intro n_ hn; exact absurd hn (Nat.not_lt_zero _)
    | succ n2 ih2 =>
      intro n_ hn2 hn_ hno_
      refine e_iload_n (pc := 2) Xc (dT hX6_looked 2 rfl) 1 rfl ?_
      refine e_aload_n (pc := 3) Xc (dT hX6_looked 3 rfl) 0 rfl ?_
      refine gf_X6_27 (pc := 4) Xc (dT hX6_looked 4 rfl) hx.o rfl ?_
      refine gf_X6_275 (pc := 7) Xc (dT hX6_looked 5 rfl) hPp.o rfl ?_
      refine e_val (y := nI nn) hRP.2.2.2.1 ?_
      refine e_icmp_geN (x := n_) (y := nn) (tgt := 56) (pc := 10) Xc (dT hX6_looked 6 rfl) rfl (by omega) (by omega) (fun c10 => ?_) (fun c10 => ?_)
      · skip
        refine e_bipush (v := -5) (pc := 56) Xc (dT hX6_looked 26 rfl) rfl ?_
        refine e_iret (pc := 58) Xc hQ (dT hX6_looked 27 rfl) (Nat.le_refl _) (Nat.le_refl _) ?_
        have hne_ : n_ = nn := by omega
        subst hne_
        have hz : v_looked X n_ = -5 := by rw [v_looked]; exact fnd_miss hno_
        exact ⟨hz.symm, hB, OffB.rf⟩
      · skip
        obtain ⟨⟨q_, hq_, hqe_⟩, b_, hb_, hbe_⟩ := hNo.2.2 n_ (by omega)
        obtain ⟨hr1_, hr2_⟩ := hRP.2.2.2.2.2.2.2 n_ (by omega)
        refine e_aload_n (pc := 13) Xc (dT hX6_looked 7 rfl) 0 rfl ?_
        refine gf_X6_12 (pc := 14) Xc (dT hX6_looked 8 rfl) hx.o rfl ?_
        refine gf_X6_113 (pc := 17) Xc (dT hX6_looked 9 rfl) hBw1.1.o rfl ?_
        refine e_aload_n (pc := 20) Xc (dT hX6_looked 10 rfl) 0 rfl ?_
        refine gf_X6_27 (pc := 21) Xc (dT hX6_looked 11 rfl) hx.o rfl ?_
        refine gf_X6_278 (pc := 24) Xc (dT hX6_looked 12 rfl) hPp.o rfl ?_
        refine e_iload_n (pc := 27) Xc (dT hX6_looked 13 rfl) 1 rfl ?_
        refine cl_X6_106 (pc := 28) (k := 0) (n := 0) (S := [.ref (x + 1 + 4)]) Xc (c_get hPp.a7 (by decide) (by decide) n_ (by omega)) (dT hX6_looked 14 rfl) rfl (Nat.le_of_ble_eq_true rfl) (Nat.le_of_ble_eq_true rfl) (Nat.le_of_ble_eq_true rfl) rfl (Nat.le_of_ble_eq_true rfl) (fun r2 σ3 hq4 => ?_)
        obtain ⟨r2e, r2s⟩ := hq4
        have r2e := r2e.symm; subst r2e; have r2s := r2s.symm; subst r2s
        refine e_val (y := nI q_) (hr1_.trans hqe_) ?_
        refine cl_X6_106 (pc := 31) (k := 0) (n := 0) (S := []) Xc (c_get hBw1.1.a4 (by decide) (by decide) q_ (by omega)) (dT hX6_looked 15 rfl) rfl (Nat.le_of_ble_eq_true rfl) (Nat.le_of_ble_eq_true rfl) (Nat.le_of_ble_eq_true rfl) rfl (Nat.le_of_ble_eq_true rfl) (fun r5 σ6 hq7 => ?_)
        obtain ⟨r5e, r5s⟩ := hq7
        have r5e := r5e.symm; subst r5e; have r5s := r5s.symm; subst r5s
        refine e_val (y := orN (X (1 + q_))) (hWw1.2.2.2.1 q_ (by omega)) ?_
        refine e_aload_n (pc := 34) Xc (dT hX6_looked 16 rfl) 0 rfl ?_
        refine gf_X6_27 (pc := 35) Xc (dT hX6_looked 17 rfl) hx.o rfl ?_
        refine gf_X6_281 (pc := 38) Xc (dT hX6_looked 18 rfl) hPp.o rfl ?_
        refine e_iload_n (pc := 41) Xc (dT hX6_looked 19 rfl) 1 rfl ?_
        refine cl_X6_106 (pc := 42) (k := 0) (n := 0) (S := [.int (orN (X (1 + q_)))]) Xc (c_get hPp.a8 (by decide) (by decide) n_ (by omega)) (dT hX6_looked 20 rfl) rfl (Nat.le_of_ble_eq_true rfl) (Nat.le_of_ble_eq_true rfl) (Nat.le_of_ble_eq_true rfl) rfl (Nat.le_of_ble_eq_true rfl) (fun r8 σ9 hq10 => ?_)
        obtain ⟨r8e, r8s⟩ := hq10
        have r8e := r8e.symm; subst r8e; have r8s := r8s.symm; subst r8s
        refine e_val (y := nI b_) (hr2_.trans hbe_) ?_
        refine e_icmp_eq (tgt := 50) (pc := 45) Xc (dT hX6_looked 21 rfl) rfl (fun c45 => ?_) (fun c45 => ?_)
        · skip
          refine e_iincN (a := n_) (b := 1) (L' := [(1, .int (nI (n_ + 1))), (0, .ref x)]) (pc := 50) Xc (dT hX6_looked 24 rfl) 1 rfl rfl (by decide) rfl ?_
          refine e_goto (tgt := 2) (pc := 53) Xc (dT hX6_looked 25 rfl) rfl ?_
          refine Ev.pick (L' := [(0, .ref x), (1, .int (nI (n_ + 1)))]) [1, 0] rfl ?_
          exact ih2 (n_ + 1) (by omega) (by omega) (no_next hno_ (by rw [looP, hqe_, cl_nI (by omega), hbe_]; exact decide_eq_false (fun e_ => e_ ((has_iff hG hq_ (by omega)).mp c45))))
        · skip
          refine e_iload_n (pc := 48) Xc (dT hX6_looked 22 rfl) 1 rfl ?_
          refine e_iret (pc := 49) Xc hQ (dT hX6_looked 23 rfl) (Nat.le_refl _) (Nat.le_refl _) ?_
          have hz : v_looked X nn = nI n_ := by rw [v_looked]; exact fnd_hit (by omega) (by rw [looP, hqe_, cl_nI (by omega), hbe_]; exact decide_eq_true (fun e_ => c45 ((has_iff hG hq_ (by omega)).mpr e_))) hno_
          exact ⟨hz.symm, hB, OffB.rf⟩
  refine Ev.pick (L' := [(0, .ref x), (1, .int 0)]) [1, 0] rfl ?_
  exact lp2 ((nn - 0) + 1) 0 (Nat.lt_succ_self _) (Nat.zero_le _) (fun j hj => absurd hj (Nat.not_lt_zero j))
set_option maxRecDepth 100000 in
set_option maxHeartbeats 4000000 in
theorem b_trace {G : xG} {σ : xS} {x m : Nat} {X Y bd : Nat → Int32} {hi : Int32} {rr : Nat} {nr nb ns np nn nt na dy : Nat} {t : xT} (hB : BK G σ x m X Y bd hi rr nr nb ns np nn nt t) (hK : OK X nr nb t ns np nn nt na dy) (hrr : rr ≤ 1000) (i : Int32) : CI G yX6_trace cX6_trace 2 (some .int) 1 0 0 [.ref x, .int i] σ (fun z σ1 => z = v_trace bd rr i ∧ BK G σ1 x m X Y bd hi rr nr nb ns np nn nt t ∧ OffB x σ σ1) := by
  refine Met.ofX (by decide +kernel) (Nat.le_of_ble_eq_true rfl) (fun μ Xc hQ hnm => ?_)
  have Xc : xC G μ cX6_trace 2 RX6 (some .int) 1 0 0 := Xc
  obtain ⟨hSA, ⟨hgA, hgO⟩, hxm, hms, ⟨Fx, Ax, hx, hF7⟩, ⟨tw, htw, hXn⟩, ⟨F5, T5, A5, hP5⟩, ⟨Fp, Tp, Ap, hPp, hRP⟩, ⟨Fg, Tg, Ag, hPg⟩, ⟨Fa, Ta, Aa, hPa, hFa1, hAa⟩, hBI⟩ := id hB
  obtain ⟨htw1, htw2, htw3⟩ := id htw
  obtain ⟨hG, hT, hS, hPl, hNo, hTa, hA, hJ, hR, hD⟩ := id hK
  have hr4 := hG.r4
  have hb7 := hG.b7
  have hs6 := hS.1
  have hp8 := hPl.1
  have hn8 := hNo.1
  have ht100 := hTa.1
  have ha5 := hA.1
  have hdy := hD.1
  have hd0 := hD.2
  have ht13 : tw ≠ x + 13 := by omega
  have hb8 : ns ≤ 6 ∧ np ≤ 8 ∧ nn ≤ 8 ∧ nt ≤ 100 := ⟨hs6, hp8, hn8, ht100⟩
  show Ev G μ 2 0 0 0 [(0, .ref x), (1, .int i)] [] σ
  obtain ⟨Fw1, Tw1, Aw1, hBw1, htw1⟩ := id hXn
  have hWw1 := hBw1.2.1
  refine e_iload_n (pc := 0) Xc (dT hX6_trace 0 rfl) 1 rfl ?_
  refine e_if_lt (tgt := 21) (pc := 1) Xc (dT hX6_trace 1 rfl) rfl (fun c1 => ?_) (fun c1 => ?_)
  · skip
    have hin_i : inF i 0 (nI (if rr < 20 then rr else 20) - 1) = false := by
      have k1_ := c1
      have hm_ : (if rr < 20 then rr else 20) ≤ 20 := by split <;> omega
      have hmt_ : (nI (if rr < 20 then rr else 20)).toInt = (((if rr < 20 then rr else 20) : Nat) : Int) := nI_toInt (by omega)
      have hrt_ : (nI rr).toInt = (rr : Int) := nI_toInt (by omega)
      simp only [Int32.lt_iff_toInt_lt, Int32.le_iff_toInt_le] at k1_
      have l0_ : (0 : Int32).toInt = 0 := by decide
      have l20_ : (20 : Int32).toInt = 20 := by decide
      rw [inF_lt (by omega)]
      rw [decide_eq_false (by rw [Int32.le_iff_toInt_le]; omega)]
      rfl
    refine e_iconst (v := -1) (pc := 21) Xc (dT hX6_trace 10 rfl) rfl ?_
    refine e_iret (pc := 22) Xc hQ (dT hX6_trace 11 rfl) (Nat.le_refl _) (Nat.le_refl _) ?_
    have hz : v_trace bd rr i = (-1) := by
      try simp only [bI_0, bI_1, Bool.not_eq_true, Bool.not_eq_false] at c1
      first | (simp [v_trace, c1, hin_i]; done) | (clear hB hK hSA hx hXn hP5 hPp hRP hPg hPa hBI hG hT hS hPl hNo hTa hA hJ hR hD hQ Xc; simp_all [v_trace]; done)
    exact ⟨hz.symm, hB, OffB.rf⟩
  · skip
    refine e_iload_n (pc := 4) Xc (dT hX6_trace 2 rfl) 1 rfl ?_
    refine e_aload_n (pc := 5) Xc (dT hX6_trace 3 rfl) 0 rfl ?_
    refine gf_X6_44 (pc := 6) Xc (dT hX6_trace 4 rfl) hx.o rfl ?_
    refine gf_X6_284 (pc := 9) Xc (dT hX6_trace 5 rfl) hPa.o rfl ?_
    refine e_val (y := nI rr) hFa1 ?_
    refine e_icmp_ge (tgt := 21) (pc := 12) Xc (dT hX6_trace 6 rfl) rfl (fun c12 => ?_) (fun c12 => ?_)
    · skip
      have hin_i : inF i 0 (nI (if rr < 20 then rr else 20) - 1) = false := by
        have k1_ := c1
        have k12_ := c12
        have hm_ : (if rr < 20 then rr else 20) ≤ 20 := by split <;> omega
        have hmt_ : (nI (if rr < 20 then rr else 20)).toInt = (((if rr < 20 then rr else 20) : Nat) : Int) := nI_toInt (by omega)
        have hrt_ : (nI rr).toInt = (rr : Int) := nI_toInt (by omega)
        simp only [Int32.lt_iff_toInt_lt, Int32.le_iff_toInt_le] at k1_ k12_
        have l0_ : (0 : Int32).toInt = 0 := by decide
        have l20_ : (20 : Int32).toInt = 20 := by decide
        rw [inF_lt (by omega)]
        rw [decide_eq_false (p := i < _) (by rw [Int32.lt_iff_toInt_lt, hmt_]; split <;> omega), Bool.and_false]
      refine e_iconst (v := -1) (pc := 21) Xc (dT hX6_trace 10 rfl) rfl ?_
      refine e_iret (pc := 22) Xc hQ (dT hX6_trace 11 rfl) (Nat.le_refl _) (Nat.le_refl _) ?_
      have hz : v_trace bd rr i = (-1) := by
        try simp only [bI_0, bI_1, Bool.not_eq_true, Bool.not_eq_false] at c1 c12
        first | (simp [v_trace, c1, c12, hin_i]; done) | (clear hB hK hSA hx hXn hP5 hPp hRP hPg hPa hBI hG hT hS hPl hNo hTa hA hJ hR hD hQ Xc; simp_all [v_trace]; done)
      exact ⟨hz.symm, hB, OffB.rf⟩
    · skip
      refine e_iload_n (pc := 15) Xc (dT hX6_trace 7 rfl) 1 rfl ?_
      refine e_bipush (v := 20) (pc := 16) Xc (dT hX6_trace 8 rfl) rfl ?_
      refine e_icmp_lt (tgt := 23) (pc := 18) Xc (dT hX6_trace 9 rfl) rfl (fun c18 => ?_) (fun c18 => ?_)
      · skip
        have hin_i : inF i 0 (nI (if rr < 20 then rr else 20) - 1) = true := by
          have k1_ := c1
          have k12_ := c12
          have k18_ := c18
          have hm_ : (if rr < 20 then rr else 20) ≤ 20 := by split <;> omega
          have hmt_ : (nI (if rr < 20 then rr else 20)).toInt = (((if rr < 20 then rr else 20) : Nat) : Int) := nI_toInt (by omega)
          have hrt_ : (nI rr).toInt = (rr : Int) := nI_toInt (by omega)
          simp only [Int32.lt_iff_toInt_lt, Int32.le_iff_toInt_le] at k1_ k12_ k18_
          have l0_ : (0 : Int32).toInt = 0 := by decide
          have l20_ : (20 : Int32).toInt = 20 := by decide
          rw [inF_lt (by omega)]
          rw [decide_eq_true (by rw [Int32.le_iff_toInt_le]; omega), decide_eq_true (by rw [Int32.lt_iff_toInt_lt, hmt_]; split <;> omega)]
          rfl
        have hi0_ : ¬ i < 0 := c1
        obtain ⟨q, hqb_, rfl⟩ := nI_of (x := i) hi0_
        have hq : q < 20 := by
          have k18_ := c18
          rw [Int32.lt_iff_toInt_lt, nI_toInt hqb_] at k18_
          have l20_ : (20 : Int32).toInt = 20 := by decide
          omega
        have hc_q : cl (nI q) = q := cl_nI hqb_
        have hAq_ := hAa q hq
        refine e_aload_n (pc := 23) Xc (dT hX6_trace 12 rfl) 0 rfl ?_
        refine gf_X6_44 (pc := 24) Xc (dT hX6_trace 13 rfl) hx.o rfl ?_
        refine gf_X6_291 (pc := 27) Xc (dT hX6_trace 14 rfl) hPa.o rfl ?_
        refine e_iload_n (pc := 30) Xc (dT hX6_trace 15 rfl) 1 rfl ?_
        refine cl_X6_106 (pc := 31) (k := 0) (n := 0) (S := []) Xc (c_get hPa.a1 (by decide) (by decide) q (by omega)) (dT hX6_trace 16 rfl) rfl (Nat.le_of_ble_eq_true rfl) (Nat.le_of_ble_eq_true rfl) (Nat.le_of_ble_eq_true rfl) rfl (Nat.le_of_ble_eq_true rfl) (fun r2 σ3 hq4 => ?_)
        obtain ⟨r2e, r2s⟩ := hq4
        have r2e := r2e.symm; subst r2e; have r2s := r2s.symm; subst r2s
        refine e_iret (pc := 34) Xc hQ (dT hX6_trace 17 rfl) (Nat.le_refl _) (Nat.le_refl _) ?_
        have hz : v_trace bd rr (nI q) = Aa 1 q := by
          try simp only [bI_0, bI_1, Bool.not_eq_true, Bool.not_eq_false] at c1 c12 c18
          first | (simp [v_trace, c1, c12, c18, hin_i, hc_q, hAq_]; done) | (clear hB hK hSA hx hXn hP5 hPp hRP hPg hPa hBI hG hT hS hPl hNo hTa hA hJ hR hD hQ Xc; simp_all [v_trace]; done)
        exact ⟨hz.symm, hB, OffB.rf⟩
      · skip
        have hin_i : inF i 0 (nI (if rr < 20 then rr else 20) - 1) = false := by
          have k1_ := c1
          have k12_ := c12
          have k18_ := c18
          have hm_ : (if rr < 20 then rr else 20) ≤ 20 := by split <;> omega
          have hmt_ : (nI (if rr < 20 then rr else 20)).toInt = (((if rr < 20 then rr else 20) : Nat) : Int) := nI_toInt (by omega)
          have hrt_ : (nI rr).toInt = (rr : Int) := nI_toInt (by omega)
          simp only [Int32.lt_iff_toInt_lt, Int32.le_iff_toInt_le] at k1_ k12_ k18_
          have l0_ : (0 : Int32).toInt = 0 := by decide
          have l20_ : (20 : Int32).toInt = 20 := by decide
          rw [inF_lt (by omega)]
          rw [decide_eq_false (p := i < _) (by rw [Int32.lt_iff_toInt_lt, hmt_]; split <;> omega), Bool.and_false]
        refine e_iconst (v := -1) (pc := 21) Xc (dT hX6_trace 10 rfl) rfl ?_
        refine e_iret (pc := 22) Xc hQ (dT hX6_trace 11 rfl) (Nat.le_refl _) (Nat.le_refl _) ?_
        have hz : v_trace bd rr i = (-1) := by
          try simp only [bI_0, bI_1, Bool.not_eq_true, Bool.not_eq_false] at c1 c12 c18
          first | (simp [v_trace, c1, c12, c18, hin_i]; done) | (clear hB hK hSA hx hXn hP5 hPp hRP hPg hPa hBI hG hT hS hPl hNo hTa hA hJ hR hD hQ Xc; simp_all [v_trace]; done)
        exact ⟨hz.symm, hB, OffB.rf⟩
set_option maxRecDepth 100000 in
set_option maxHeartbeats 4000000 in
theorem b_as {G : xG} {σ : xS} {x m : Nat} {X Y bd : Nat → Int32} {hi : Int32} {rr : Nat} {nr nb ns np nn nt na dy : Nat} {t : xT} (hB : BK G σ x m X Y bd hi rr nr nb ns np nn nt t) (hK : OK X nr nb t ns np nn nt na dy) (v : Int32) (k : Int32) : CI G yX6_as cX6_as 3 (some .int) 2 0 0 [.ref x, .int v, .int k] σ (fun z σ1 => z = v_as X nr v k ∧ BK G σ1 x m X Y bd hi rr nr nb ns np nn nt t ∧ OffB x σ σ1) := by
  refine Met.ofX (by decide +kernel) (Nat.le_of_ble_eq_true rfl) (fun μ Xc hQ hnm => ?_)
  have Xc : xC G μ cX6_as 3 RX6 (some .int) 2 0 0 := Xc
  obtain ⟨hSA, ⟨hgA, hgO⟩, hxm, hms, ⟨Fx, Ax, hx, hF7⟩, ⟨tw, htw, hXn⟩, ⟨F5, T5, A5, hP5⟩, ⟨Fp, Tp, Ap, hPp, hRP⟩, ⟨Fg, Tg, Ag, hPg⟩, ⟨Fa, Ta, Aa, hPa, hFa1, hAa⟩, hBI⟩ := id hB
  obtain ⟨htw1, htw2, htw3⟩ := id htw
  obtain ⟨hG, hT, hS, hPl, hNo, hTa, hA, hJ, hR, hD⟩ := id hK
  have hr4 := hG.r4
  have hb7 := hG.b7
  have hs6 := hS.1
  have hp8 := hPl.1
  have hn8 := hNo.1
  have ht100 := hTa.1
  have ha5 := hA.1
  have hdy := hD.1
  have hd0 := hD.2
  have ht13 : tw ≠ x + 13 := by omega
  have hb8 : ns ≤ 6 ∧ np ≤ 8 ∧ nn ≤ 8 ∧ nt ≤ 100 := ⟨hs6, hp8, hn8, ht100⟩
  show Ev G μ 3 0 0 0 [(0, .ref x), (1, .int v), (2, .int k)] [] σ
  obtain ⟨Fw1, Tw1, Aw1, hBw1, htw1⟩ := id hXn
  have hWw1 := hBw1.2.1
  refine e_aload_n (pc := 0) Xc (dT hX6_as 0 rfl) 0 rfl ?_
  refine gf_X6_12 (pc := 1) Xc (dT hX6_as 1 rfl) hx.o rfl ?_
  refine e_iload_n (pc := 4) Xc (dT hX6_as 2 rfl) 1 rfl ?_
  refine cl_X6_99 (pc := 5) (k := 0) (n := 0) (S := []) Xc hBw1.1.o (c5_isReader hBw1 v) (dT hX6_as 3 rfl) rfl (Nat.le_of_ble_eq_true rfl) (Nat.le_of_ble_eq_true rfl) (Nat.le_of_ble_eq_true rfl) rfl (Nat.le_of_ble_eq_true rfl) (fun r2 σ3 hq4 => ?_)
  obtain ⟨r2e, r2s⟩ := hq4
  have r2e := r2e.symm; subst r2e; have r2s := r2s.symm; subst r2s
  refine e_if_eq (tgt := 21) (pc := 8) Xc (dT hX6_as 4 rfl) rfl (fun c8 => ?_) (fun c8 => ?_)
  · skip
    refine e_iconst (v := -1) (pc := 21) Xc (dT hX6_as 10 rfl) rfl ?_
    refine e_iret (pc := 22) Xc hQ (dT hX6_as 11 rfl) (Nat.le_refl _) (Nat.le_refl _) ?_
    have hz : v_as X nr v k = (-1) := by
      try simp only [bI_0, bI_1, Bool.not_eq_true, Bool.not_eq_false] at c8
      first | (simp [v_as, c8]; done) | (clear hB hK hSA hx hXn hP5 hPp hRP hPg hPa hBI hG hT hS hPl hNo hTa hA hJ hR hD hQ Xc; simp_all [v_as]; done)
    exact ⟨hz.symm, hB, OffB.rf⟩
  · skip
    obtain ⟨q, hq, rfl⟩ := inF_nat (v := v) (n := nr) (by omega) (by simpa [bI_0, bI_1] using c8)
    have hc_q : cl (nI q) = q := cl_nI (by omega)
    refine e_iload_n (pc := 11) Xc (dT hX6_as 5 rfl) 2 rfl ?_
    refine e_if_lt (tgt := 21) (pc := 12) Xc (dT hX6_as 6 rfl) rfl (fun c12 => ?_) (fun c12 => ?_)
    · skip
      have hin_k : inF k 0 6 = false := by
        have k12_ := c12
        simp only [Int32.lt_iff_toInt_lt, Int32.le_iff_toInt_le] at k12_
        have l0_ : (0 : Int32).toInt = 0 := by decide
        have l6_ : (6 : Int32).toInt = 6 := by decide
        have l7_ : (7 : Int32).toInt = 7 := by decide
        rw [inF_ff]
        omega
      refine e_iconst (v := -1) (pc := 21) Xc (dT hX6_as 10 rfl) rfl ?_
      refine e_iret (pc := 22) Xc hQ (dT hX6_as 11 rfl) (Nat.le_refl _) (Nat.le_refl _) ?_
      have hz : v_as X nr (nI q) k = (-1) := by
        try simp only [bI_0, bI_1, Bool.not_eq_true, Bool.not_eq_false] at c8 c12
        first | (simp [v_as, c8, c12, hc_q, hin_k]; done) | (clear hB hK hSA hx hXn hP5 hPp hRP hPg hPa hBI hG hT hS hPl hNo hTa hA hJ hR hD hQ Xc; simp_all [v_as]; done)
      exact ⟨hz.symm, hB, OffB.rf⟩
    · skip
      refine e_iload_n (pc := 15) Xc (dT hX6_as 7 rfl) 2 rfl ?_
      refine e_bipush (v := 7) (pc := 16) Xc (dT hX6_as 8 rfl) rfl ?_
      refine e_icmp_lt (tgt := 23) (pc := 18) Xc (dT hX6_as 9 rfl) rfl (fun c18 => ?_) (fun c18 => ?_)
      · skip
        have hin_k : inF k 0 6 = true := by
          have k12_ := c12
          have k18_ := c18
          simp only [Int32.lt_iff_toInt_lt, Int32.le_iff_toInt_le] at k12_ k18_
          have l0_ : (0 : Int32).toInt = 0 := by decide
          have l6_ : (6 : Int32).toInt = 6 := by decide
          have l7_ : (7 : Int32).toInt = 7 := by decide
          rw [inF_iff]
          omega
        obtain ⟨kq_, hkq_, rfl⟩ := in_N (w := k) (n := 6) (by omega) hin_k
        have hc_kq_ : cl (nI kq_) = kq_ := cl_nI (by omega)
        obtain ⟨kk_, hkk_, hkke_⟩ := hG.2.2.2.2.1 q hq
        refine e_aload_n (pc := 23) Xc (dT hX6_as 12 rfl) 0 rfl ?_
        refine gf_X6_12 (pc := 24) Xc (dT hX6_as 13 rfl) hx.o rfl ?_
        refine gf_X6_103 (pc := 27) Xc (dT hX6_as 14 rfl) hBw1.1.o rfl ?_
        refine e_iload_n (pc := 30) Xc (dT hX6_as 15 rfl) 1 rfl ?_
        refine cl_X6_106 (pc := 31) (k := 0) (n := 0) (S := []) Xc (c_get hBw1.1.a2 (by decide) (by decide) q (by omega)) (dT hX6_as 16 rfl) rfl (Nat.le_of_ble_eq_true rfl) (Nat.le_of_ble_eq_true rfl) (Nat.le_of_ble_eq_true rfl) rfl (Nat.le_of_ble_eq_true rfl) (fun r5 σ6 hq7 => ?_)
        obtain ⟨r5e, r5s⟩ := hq7
        have r5e := r5e.symm; subst r5e; have r5s := r5s.symm; subst r5s
        refine e_val (y := X (20 + q)) (hWw1.2.1 q (by omega)) ?_
        refine e_val (y := nI kk_) hkke_ ?_
        refine e_iload_n (pc := 34) Xc (dT hX6_as 17 rfl) 2 rfl ?_
        refine cl_X6_294 (pc := 35) (k := 0) (n := 0) (S := []) Xc (c6_isUnder hSA kk_ kq_ (by omega) (by omega)) (dT hX6_as 18 rfl) rfl (Nat.le_of_ble_eq_true rfl) (Nat.le_of_ble_eq_true rfl) (Nat.le_of_ble_eq_true rfl) rfl (Nat.le_of_ble_eq_true rfl) (fun r8 σ9 hq10 => ?_)
        obtain ⟨r8e, r8s⟩ := hq10
        have r8e := r8e.symm; subst r8e; have r8s := r8s.symm; subst r8s
        refine e_if_eq (tgt := 55) (pc := 38) Xc (dT hX6_as 19 rfl) rfl (fun c38 => ?_) (fun c38 => ?_)
        · skip
          refine e_bipush (v := -6) (pc := 55) Xc (dT hX6_as 26 rfl) rfl ?_
          refine e_iret (pc := 57) Xc hQ (dT hX6_as 27 rfl) (Nat.le_refl _) (Nat.le_refl _) ?_
          have hz : v_as X nr (nI q) (nI kq_) = (-6) := by
            try simp only [bI_0, bI_1, Bool.not_eq_true, Bool.not_eq_false] at c8 c12 c18 c38
            first | (simp [v_as, c8, c12, c18, c38, hc_q, hin_k, hc_kq_, hkke_]; done) | (clear hB hK hSA hx hXn hP5 hPp hRP hPg hPa hBI hG hT hS hPl hNo hTa hA hJ hR hD hQ Xc; simp_all [v_as]; done)
          exact ⟨hz.symm, hB, OffB.rf⟩
        · skip
          refine e_aload_n (pc := 41) Xc (dT hX6_as 20 rfl) 0 rfl ?_
          refine gf_X6_12 (pc := 42) Xc (dT hX6_as 21 rfl) hx.o rfl ?_
          refine gf_X6_110 (pc := 45) Xc (dT hX6_as 22 rfl) hBw1.1.o rfl ?_
          refine e_iload_n (pc := 48) Xc (dT hX6_as 23 rfl) 1 rfl ?_
          refine cl_X6_106 (pc := 49) (k := 0) (n := 0) (S := []) Xc (c_get hBw1.1.a3 (by decide) (by decide) q (by omega)) (dT hX6_as 24 rfl) rfl (Nat.le_of_ble_eq_true rfl) (Nat.le_of_ble_eq_true rfl) (Nat.le_of_ble_eq_true rfl) rfl (Nat.le_of_ble_eq_true rfl) (fun r11 σ12 hq13 => ?_)
          obtain ⟨r11e, r11s⟩ := hq13
          have r11e := r11e.symm; subst r11e; have r11s := r11s.symm; subst r11s
          refine e_val (y := X (24 + q)) (hWw1.2.2.1 q (by omega)) ?_
          refine e_goto (tgt := 57) (pc := 52) Xc (dT hX6_as 25 rfl) rfl ?_
          refine e_iret (pc := 57) Xc hQ (dT hX6_as 27 rfl) (Nat.le_refl _) (Nat.le_refl _) ?_
          have hz : v_as X nr (nI q) (nI kq_) = X (24 + q) := by
            try simp only [bI_0, bI_1, Bool.not_eq_true, Bool.not_eq_false] at c8 c12 c18 c38
            first | (simp [v_as, c8, c12, c18, c38, hc_q, hin_k, hc_kq_, hkke_]; done) | (clear hB hK hSA hx hXn hP5 hPp hRP hPg hPa hBI hG hT hS hPl hNo hTa hA hJ hR hD hQ Xc; simp_all [v_as]; done)
          exact ⟨hz.symm, hB, OffB.rf⟩
      · skip
        have hin_k : inF k 0 6 = false := by
          have k12_ := c12
          have k18_ := c18
          simp only [Int32.lt_iff_toInt_lt, Int32.le_iff_toInt_le] at k12_ k18_
          have l0_ : (0 : Int32).toInt = 0 := by decide
          have l6_ : (6 : Int32).toInt = 6 := by decide
          have l7_ : (7 : Int32).toInt = 7 := by decide
          rw [inF_ff]
          omega
        refine e_iconst (v := -1) (pc := 21) Xc (dT hX6_as 10 rfl) rfl ?_
        refine e_iret (pc := 22) Xc hQ (dT hX6_as 11 rfl) (Nat.le_refl _) (Nat.le_refl _) ?_
        have hz : v_as X nr (nI q) k = (-1) := by
          try simp only [bI_0, bI_1, Bool.not_eq_true, Bool.not_eq_false] at c8 c12 c18
          first | (simp [v_as, c8, c12, c18, hc_q, hin_k]; done) | (clear hB hK hSA hx hXn hP5 hPp hRP hPg hPa hBI hG hT hS hPl hNo hTa hA hJ hR hD hQ Xc; simp_all [v_as]; done)
        exact ⟨hz.symm, hB, OffB.rf⟩
